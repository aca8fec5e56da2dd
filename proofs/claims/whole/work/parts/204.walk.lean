section WALK
variable {p : Program} {l : Launch} {e : Env} {s : State} {m : MethodId} {args : Array Value} {below : List Frame} {meth : Method} {c : Code} {G : Gp} {DA : Nat → Prop}
abbrev rmX1_lanesInAll : Room := { frames := 1, cells := 0, slots := 0, locals := 21 }
set_option maxRecDepth 100000 in
set_option maxHeartbeats 4000000 in
theorem ww_f1_lanesInAll_b4  (C0 : Cx cX1_lanesInAll 3 (some .int) RX1 p s m args meth c G DA) {h0 : Nat} {a0 : Nat → Nat} {f0 : Nat → Int32} {A0 : Nat → Nat → Int32}  {k4 : Int32 → Int32 → Option (Int32)} {res : Int32}  (hk4 : ∀ (l1 : Int32) (l2 : Int32), k4 l1 l2 = some res → ∀ (H : Heap) (locs : List Loc) (ls : Array Slot), WD G DA (wX1 G h0 a0 f0 A0) H → va_S DA s.heap H locs → lv_has ls 3 [(0, .ref h0), (1, .int l1), (2, .int l2)] → W p l e rmX1_lanesInAll s m args below meth c H locs 0 0 (MQ below (QI G DA res (wX1 G h0 a0 f0 A0)) args s 0 0 DA) (F0 m 4 ls [])) : ∀ (l1 : Int32) (l2 : Int32), f1_lanesInAll_b4 f0 A0  k4 l1 l2 = some res → ∀ (H : Heap) (locs : List Loc) (ls : Array Slot), WD G DA (wX1 G h0 a0 f0 A0) H → va_S DA s.heap H locs → lv_has ls 3 [(0, .ref h0), (1, .int l1), (2, .int l2)] → W p l e rmX1_lanesInAll s m args below meth c H locs 0 0 (MQ below (QI G DA res (wX1 G h0 a0 f0 A0)) args s 0 0 DA) (F0 m 4 ls []) := by
  obtain ⟨hx, hb, hml, hown, hts⟩ := C0.1
  have hK := C0.2.2.2.1
  intro l1 l2 h _ _ _ hPD hS hl
  unfold f1_lanesInAll_b4 at h
  refine lv_iload_n hx hb dX1_lanesInAll_4 rfl (lv_at hl 2 rfl) ?_
  refine lv_bipush (v := 16) hx hb dX1_lanesInAll_5 (by decide) ?_
  refine lv_icmp_ge (tgt := 30) hx hb dX1_lanesInAll_7 (by decide) (fun cc1 => ?_) (fun cc1 => ?_)
  · have h := (if_pos cc1).symm.trans h
    refine lv_iload_n hx hb dX1_lanesInAll_30 rfl (lv_at hl 1 rfl) ?_
    refine lv_iconst (v := 2) hx hb dX1_lanesInAll_31 (by decide) ?_
    refine lv_idiv hx hb dX1_lanesInAll_32 (by decide) ?_
    obtain rfl := Option.some.inj h
    exact eI C0 hPD.1 hPD.2 hS rfl dX1_lanesInAll_33
  · have h := (if_neg cc1).symm.trans h
    refine lv_iload_n hx hb dX1_lanesInAll_10 rfl (lv_at hl 1 rfl) ?_
    refine lv_aload_n hx hb dX1_lanesInAll_11 rfl (lv_at hl 0 rfl) ?_
    refine va_get (D := G.1) (ci := 1) (v := .ref (a0 1)) (C := RX1) (T := TX1) (N := 4) hx hb hts inlX1 hown hK hPD.1 0 rfl rfl 1 (by decide) (hts _ gw_76) (fun _ h9 => h9) rfl dX1_lanesInAll_12 ?_
    refine lv_iload_n hx hb dX1_lanesInAll_15 rfl (lv_at hl 2 rfl) ?_
    refine kNI (As := [.ref (a0 1), .int l2]) (rest := [.int l1]) C0 (kt_X9_at l G (a0 1) 16 (A0 1) l2 (by decide)) gi_U_X9_at (host := "IdleCrimes") (index := 33) (List.mem_of_getElem? (i := 20) rfl) gw_6 gw_7 (n := 2) rfl (by decide +kernel) ⟨rfl, rfl, Nat.le_of_ble_eq_true rfl, Nat.le_of_ble_eq_true rfl⟩ hPD hS [1] [0, 2, 3] [0, 3, 1, 2] (wr := pick (wX1 G h0 a0 f0 A0) [0, 2, 3]) (wN := (wX1 G h0 a0 f0 A0)) rfl rfl rfl rfl rfl hl.1 (Nat.le_of_ble_eq_true rfl) dX1_lanesInAll_16 (fun H locs hPD hS => ?_)
    refine kSI (As := [.int (f9_at 16 (A0 1) l2)]) (rest := [.int l1]) C0 (kt_J6_bitCount_0f7a4 l G  (f9_at 16 (A0 1) l2)) gi_S_X1_62_J6_bitCount_0f7a4 (n := 1) rfl (by decide +kernel) ⟨rfl, rfl, Nat.le_of_ble_eq_true rfl, Nat.le_of_ble_eq_true rfl⟩ hPD hS [] [0, 1, 2, 3] [0, 1, 2, 3] (wr := (wX1 G h0 a0 f0 A0)) (wN := (wX1 G h0 a0 f0 A0)) rfl rfl rfl rfl rfl hl.1 (Nat.le_of_ble_eq_true rfl) dX1_lanesInAll_19 (fun H locs hPD hS => ?_)
    refine lv_iadd hx hb dX1_lanesInAll_22 ?_
    refine lv_istore_n (lv' := [(1, .int (l1 + (fJ6_bitCount_0f7a4 (f9_at 16 (A0 1) l2)))), (0, .ref h0), (2, .int l2)]) hx hb dX1_lanesInAll_23 rfl hl (by decide) rfl (fun ls hl => ?_)
    refine lv_iinc (v := l2 + 1) (lv' := [(2, .int (l2 + 1)), (1, .int (l1 + (fJ6_bitCount_0f7a4 (f9_at 16 (A0 1) l2)))), (0, .ref h0)]) hx hb dX1_lanesInAll_24 hl (k := 2) rfl rfl (by decide) rfl (fun ls hl => ?_)
    refine lv_goto (tgt := 4) hx hb dX1_lanesInAll_27 (by decide) ?_
    exact hk4 (l1 + (fJ6_bitCount_0f7a4 (f9_at 16 (A0 1) l2))) (l2 + 1) h _ _ _ hPD hS (lv_sub hl [2, 1, 0] rfl)
set_option maxRecDepth 100000 in
set_option maxHeartbeats 4000000 in
theorem ww_f1_lanesInAll_l4  (C0 : Cx cX1_lanesInAll 3 (some .int) RX1 p s m args meth c G DA) {h0 : Nat} {a0 : Nat → Nat} {f0 : Nat → Int32} {A0 : Nat → Nat → Int32}   {res : Int32}  : ∀ (n : Nat) (l1 : Int32) (l2 : Int32), f1_lanesInAll_l4 f0 A0  n l1 l2 = some res → ∀ (H : Heap) (locs : List Loc) (ls : Array Slot), WD G DA (wX1 G h0 a0 f0 A0) H → va_S DA s.heap H locs → lv_has ls 3 [(0, .ref h0), (1, .int l1), (2, .int l2)] → W p l e rmX1_lanesInAll s m args below meth c H locs 0 0 (MQ below (QI G DA res (wX1 G h0 a0 f0 A0)) args s 0 0 DA) (F0 m 4 ls []) := by
  intro n
  induction n with
  | zero => intro l1 l2 h; cases h
  | succ n ih => intro l1 l2 h; exact ww_f1_lanesInAll_b4 C0  ih l1 l2 h
set_option maxRecDepth 100000 in
set_option maxHeartbeats 4000000 in
theorem kt_X1_lanesInAll (l : Launch) (G : Gp) (h0 : Nat) (a0 : Nat → Nat) (f0 : Nat → Int32) (A0 : Nat → Nat → Int32) : ∀ {r : Int32}, f1_lanesInAll f0 A0 = some r → CtrI l yX1_lanesInAll cX1_lanesInAll 3 (some .int) rmX1_lanesInAll G [.ref h0] (wX1 G h0 a0 f0 A0) r (wX1 G h0 a0 f0 A0) := by
  intro res h
  refine ctrI_of (cc := cX1_lanesInAll) (maxL := 3) (ret := (some .int)) (by decide +kernel) rfl (Nat.le_of_ble_eq_true rfl) (fun p e s m below meth c DA C0 hP hD ls hl => ?_)
  have hPD : WD G DA (wX1 G h0 a0 f0 A0) s.heap := ⟨hP, hD⟩
  have hS : va_S DA s.heap s.heap [] := va_S.rf
  have hl : lv_has ls 3 [(0, .ref h0)] := hl
  obtain ⟨hx, hb, hml, hown, hts⟩ := C0.1
  have hK := C0.2.2.2.1
  unfold f1_lanesInAll at h
  refine lv_iconst (v := 0) hx hb dX1_lanesInAll_0 (by decide) ?_
  refine lv_istore_n (lv' := [(1, .int 0), (0, .ref h0)]) hx hb dX1_lanesInAll_1 rfl hl (by decide) rfl (fun ls hl => ?_)
  refine lv_iconst (v := 0) hx hb dX1_lanesInAll_2 (by decide) ?_
  refine lv_istore_n (lv' := [(2, .int 0), (1, .int 0), (0, .ref h0)]) hx hb dX1_lanesInAll_3 rfl hl (by decide) rfl (fun ls hl => ?_)
  exact ww_f1_lanesInAll_l4 C0 NF 0 0 h _ _ _ hPD hS (lv_sub hl [2, 1, 0] rfl)
abbrev rmX1_isBridge : Room := { frames := 4, cells := 0, slots := 0, locals := 91 }
set_option maxRecDepth 100000 in
set_option maxHeartbeats 4000000 in
theorem kt_X1_isBridge (l : Launch) (G : Gp) (h0 : Nat) (a0 : Nat → Nat) (f0 : Nat → Int32) (A0 : Nat → Nat → Int32) (p1 : Int32) (p2 : Int32) : ∀ {r : Int32 × (Nat → Nat → Int32)}, f1_isBridge f0 A0 p1 p2 = some r → CtrI l yX1_isBridge cX1_isBridge 3 (some .boolean) rmX1_isBridge G [.ref h0, .int p1, .int p2] (wX1 G h0 a0 f0 A0) r.1 (wX1 G h0 a0 f0 r.2) := by
  intro res h
  refine ctrI_of (cc := cX1_isBridge) (maxL := 3) (ret := (some .boolean)) (by decide +kernel) rfl (Nat.le_of_ble_eq_true rfl) (fun p e s m below meth c DA C0 hP hD ls hl => ?_)
  have hPD : WD G DA (wX1 G h0 a0 f0 A0) s.heap := ⟨hP, hD⟩
  have hS : va_S DA s.heap s.heap [] := va_S.rf
  have hl : lv_has ls 3 [(0, .ref h0), (1, .int p1), (2, .int p2)] := hl
  obtain ⟨hx, hb, hml, hown, hts⟩ := C0.1
  have hK := C0.2.2.2.1
  unfold f1_isBridge at h
  refine lv_aload_n hx hb dX1_isBridge_0 rfl (lv_at hl 0 rfl) ?_
  refine va_get (D := G.1) (ci := 1) (v := .ref (a0 1)) (C := RX1) (T := TX1) (N := 4) hx hb hts inlX1 hown hK hPD.1 0 rfl rfl 1 (by decide) (hts _ gw_76) (fun _ h9 => h9) rfl dX1_isBridge_1 ?_
  refine lv_iload_n hx hb dX1_isBridge_4 rfl (lv_at hl 1 rfl) ?_
  refine kNI (As := [.ref (a0 1), .int p1]) (rest := []) C0 (kt_X9_at l G (a0 1) 16 (A0 1) p1 (by decide)) gi_U_X9_at (host := "IdleCrimes") (index := 33) (List.mem_of_getElem? (i := 20) rfl) gw_6 gw_7 (n := 2) rfl (by decide +kernel) ⟨rfl, rfl, Nat.le_of_ble_eq_true rfl, Nat.le_of_ble_eq_true rfl⟩ hPD hS [1] [0, 2, 3] [0, 3, 1, 2] (wr := pick (wX1 G h0 a0 f0 A0) [0, 2, 3]) (wN := (wX1 G h0 a0 f0 A0)) rfl rfl rfl rfl rfl hl.1 (Nat.le_of_ble_eq_true rfl) dX1_isBridge_5 (fun H locs hPD hS => ?_)
  refine lv_iload_n hx hb dX1_isBridge_8 rfl (lv_at hl 2 rfl) ?_
  refine kNI (As := [.int (f9_at 16 (A0 1) p1), .int p2]) (rest := []) C0 (kt_X9_has l G  (f9_at 16 (A0 1) p1) p2) gi_U_X9_has (host := "IdleCrimes") (index := 29) (List.mem_of_getElem? (i := 9) rfl) gw_6 gw_74 (n := 2) rfl (by decide +kernel) ⟨rfl, rfl, Nat.le_of_ble_eq_true rfl, Nat.le_of_ble_eq_true rfl⟩ hPD hS [] [0, 1, 2, 3] [0, 1, 2, 3] (wr := (wX1 G h0 a0 f0 A0)) (wN := (wX1 G h0 a0 f0 A0)) rfl rfl rfl rfl rfl hl.1 (Nat.le_of_ble_eq_true rfl) dX1_isBridge_9 (fun H locs hPD hS => ?_)
  refine lv_if_ne (tgt := 17) hx hb dX1_isBridge_12 (by decide) (fun cc1 => ?_) (fun cc1 => ?_)
  · have h := (if_neg cc1).symm.trans h
    refine lv_aload_n hx hb dX1_isBridge_17 rfl (lv_at hl 0 rfl) ?_
    refine lv_iload_n hx hb dX1_isBridge_18 rfl (lv_at hl 1 rfl) ?_
    refine lv_iload_n hx hb dX1_isBridge_19 rfl (lv_at hl 2 rfl) ?_
    obtain ⟨z_1, ez_1, h⟩ := lvl h
    have kc := kt_X1_part l G h0 a0 f0 A0 p1 p2
    rw [← ez_1] at kc
    clear ez_1
    refine kVV (As := [.int p1, .int p2]) (rest := []) C0 (kc) gi_V_X1_70_X1_part (n := 2) rfl (by decide +kernel) rfl ⟨rfl, rfl, Nat.le_of_ble_eq_true rfl, Nat.le_of_ble_eq_true rfl⟩ hPD hS 0 1 rfl rfl rfl [0, 1, 2, 3] [] [0, 1, 2, 3] (wr := ([] : va_W)) (wN := (wX1 G h0 a0 f0 z_1)) rfl rfl rfl rfl rfl hl.1 (Nat.le_of_ble_eq_true rfl) dX1_isBridge_20 (fun H locs hPD hS => ?_)
    refine lv_aload_n hx hb dX1_isBridge_23 rfl (lv_at hl 0 rfl) ?_
    refine lv_iload_n hx hb dX1_isBridge_24 rfl (lv_at hl 1 rfl) ?_
    obtain ⟨q_2, hq_2, h⟩ := ob2 h
    refine kVV (As := [.int p1]) (rest := []) C0 (kt_X1_measure l G h0 a0 f0 z_1 p1 hq_2) gi_V_X1_54_X1_measure (n := 1) rfl (by decide +kernel) rfl ⟨rfl, rfl, Nat.le_of_ble_eq_true rfl, Nat.le_of_ble_eq_true rfl⟩ hPD hS 0 1 rfl rfl rfl [0, 1, 2, 3] [] [0, 1, 2, 3] (wr := ([] : va_W)) (wN := (wX1 G h0 a0 f0 q_2)) rfl rfl rfl rfl rfl hl.1 (Nat.le_of_ble_eq_true rfl) dX1_isBridge_25 (fun H locs hPD hS => ?_)
    refine lv_aload_n hx hb dX1_isBridge_28 rfl (lv_at hl 0 rfl) ?_
    refine lv_iload_n hx hb dX1_isBridge_29 rfl (lv_at hl 1 rfl) ?_
    refine lv_iload_n hx hb dX1_isBridge_30 rfl (lv_at hl 2 rfl) ?_
    obtain ⟨z_3, ez_3, h⟩ := lvl h
    have kc := kt_X1_join l G h0 a0 f0 q_2 p1 p2
    rw [← ez_3] at kc
    clear ez_3
    refine kVV (As := [.int p1, .int p2]) (rest := []) C0 (kc) gi_V_X1_74_X1_join (n := 2) rfl (by decide +kernel) rfl ⟨rfl, rfl, Nat.le_of_ble_eq_true rfl, Nat.le_of_ble_eq_true rfl⟩ hPD hS 0 1 rfl rfl rfl [0, 1, 2, 3] [] [0, 1, 2, 3] (wr := ([] : va_W)) (wN := (wX1 G h0 a0 f0 z_3)) rfl rfl rfl rfl rfl hl.1 (Nat.le_of_ble_eq_true rfl) dX1_isBridge_31 (fun H locs hPD hS => ?_)
    refine lv_aload_n hx hb dX1_isBridge_34 rfl (lv_at hl 0 rfl) ?_
    refine lv_iload_n hx hb dX1_isBridge_35 rfl (lv_at hl 2 rfl) ?_
    refine kVI (As := [.int p2]) (rest := []) C0 (kt_X1_stepsTo l G h0 a0 f0 z_3 p2) gi_V_X1_51_X1_stepsTo (n := 1) rfl (by decide +kernel) rfl ⟨rfl, rfl, Nat.le_of_ble_eq_true rfl, Nat.le_of_ble_eq_true rfl⟩ hPD hS 0 1 rfl rfl rfl [0, 1, 2, 3] [] [0, 1, 2, 3] (wr := ([] : va_W)) (wN := (wX1 G h0 a0 f0 z_3)) rfl rfl rfl rfl rfl hl.1 (Nat.le_of_ble_eq_true rfl) dX1_isBridge_36 (fun H locs hPD hS => ?_)
    refine lv_iconst (v := (-1)) hx hb dX1_isBridge_39 (by decide) ?_
    refine lv_icmp_ne (tgt := 47) hx hb dX1_isBridge_40 (by decide) (fun cc1 => ?_) (fun cc1 => ?_)
    · have h := (if_neg cc1).symm.trans h
      refine lv_iconst (v := 0) hx hb dX1_isBridge_47 (by decide) ?_
      obtain rfl := Option.some.inj h
      exact eZ C0 hPD.1 hPD.2 hS rfl rfl dX1_isBridge_48
    · have h := (if_pos cc1).symm.trans h
      refine lv_iconst (v := 1) hx hb dX1_isBridge_43 (by decide) ?_
      refine lv_goto (tgt := 48) hx hb dX1_isBridge_44 (by decide) ?_
      obtain rfl := Option.some.inj h
      exact eZ C0 hPD.1 hPD.2 hS rfl rfl dX1_isBridge_48
  · have h := (if_pos cc1).symm.trans h
    refine lv_iconst (v := 0) hx hb dX1_isBridge_15 (by decide) ?_
    obtain rfl := Option.some.inj h
    exact eZ C0 hPD.1 hPD.2 hS rfl rfl dX1_isBridge_16
abbrev rmX1_bridgesInAll : Room := { frames := 5, cells := 0, slots := 0, locals := 113 }
set_option maxRecDepth 100000 in
set_option maxHeartbeats 4000000 in
theorem ww_f1_bridgesInAll_b14  (C0 : Cx cX1_bridgesInAll 4 (some .int) RX1 p s m args meth c G DA) {h0 : Nat} {a0 : Nat → Nat} {f0 : Nat → Int32}  {k4 : (Nat → Nat → Int32) → Int32 → Int32 → Option (Int32 × (Nat → Nat → Int32))} {k14 : (Nat → Nat → Int32) → Int32 → Int32 → Int32 → Option (Int32 × (Nat → Nat → Int32))} {res : Int32 × (Nat → Nat → Int32)} (hk4 : ∀ (A0 : Nat → Nat → Int32) (l1 : Int32) (l2 : Int32), k4 A0 l1 l2 = some res → ∀ (H : Heap) (locs : List Loc) (ls : Array Slot), WD G DA (wX1 G h0 a0 f0 A0) H → va_S DA s.heap H locs → lv_has ls 4 [(0, .ref h0), (1, .int l1), (2, .int l2)] → W p l e rmX1_bridgesInAll s m args below meth c H locs 0 0 (MQ below (QI G DA res.1 (wX1 G h0 a0 f0 res.2)) args s 0 0 DA) (F0 m 4 ls [])) (hk14 : ∀ (A0 : Nat → Nat → Int32) (l1 : Int32) (l2 : Int32) (l3 : Int32), k14 A0 l1 l2 l3 = some res → ∀ (H : Heap) (locs : List Loc) (ls : Array Slot), WD G DA (wX1 G h0 a0 f0 A0) H → va_S DA s.heap H locs → lv_has ls 4 [(0, .ref h0), (1, .int l1), (2, .int l2), (3, .int l3)] → W p l e rmX1_bridgesInAll s m args below meth c H locs 0 0 (MQ below (QI G DA res.1 (wX1 G h0 a0 f0 res.2)) args s 0 0 DA) (F0 m 14 ls [])) : ∀ (A0 : Nat → Nat → Int32) (l1 : Int32) (l2 : Int32) (l3 : Int32), f1_bridgesInAll_b14 f0 k4 k14 A0 l1 l2 l3 = some res → ∀ (H : Heap) (locs : List Loc) (ls : Array Slot), WD G DA (wX1 G h0 a0 f0 A0) H → va_S DA s.heap H locs → lv_has ls 4 [(0, .ref h0), (1, .int l1), (2, .int l2), (3, .int l3)] → W p l e rmX1_bridgesInAll s m args below meth c H locs 0 0 (MQ below (QI G DA res.1 (wX1 G h0 a0 f0 res.2)) args s 0 0 DA) (F0 m 14 ls []) := by
  obtain ⟨hx, hb, hml, hown, hts⟩ := C0.1
  have hK := C0.2.2.2.1
  intro A0 l1 l2 l3 h _ _ _ hPD hS hl
  unfold f1_bridgesInAll_b14 at h
  refine lv_iload_n hx hb dX1_bridgesInAll_14 rfl (lv_at hl 3 rfl) ?_
  refine lv_bipush (v := 16) hx hb dX1_bridgesInAll_15 (by decide) ?_
  refine lv_icmp_ge (tgt := 38) hx hb dX1_bridgesInAll_17 (by decide) (fun cc1 => ?_) (fun cc1 => ?_)
  · have h := (if_pos cc1).symm.trans h
    refine lv_iinc (v := l2 + 1) (lv' := [(2, .int (l2 + 1)), (0, .ref h0), (1, .int l1), (3, .int l3)]) hx hb dX1_bridgesInAll_38 hl (k := 2) rfl rfl (by decide) rfl (fun ls hl => ?_)
    refine lv_goto (tgt := 4) hx hb dX1_bridgesInAll_41 (by decide) ?_
    exact hk4 A0 l1 (l2 + 1) h _ _ _ hPD hS (lv_sub hl [1, 2, 0] rfl)
  · have h := (if_neg cc1).symm.trans h
    refine lv_aload_n hx hb dX1_bridgesInAll_20 rfl (lv_at hl 0 rfl) ?_
    refine lv_iload_n hx hb dX1_bridgesInAll_21 rfl (lv_at hl 2 rfl) ?_
    refine lv_iload_n hx hb dX1_bridgesInAll_22 rfl (lv_at hl 3 rfl) ?_
    obtain ⟨q_1, hq_1, h⟩ := ob2 h
    refine kVI (As := [.int l2, .int l3]) (rest := []) C0 (kt_X1_isBridge l G h0 a0 f0 A0 l2 l3 hq_1) gi_V_X1_67_X1_isBridge (n := 2) rfl (by decide +kernel) rfl ⟨rfl, rfl, Nat.le_of_ble_eq_true rfl, Nat.le_of_ble_eq_true rfl⟩ hPD hS 0 1 rfl rfl rfl [0, 1, 2, 3] [] [0, 1, 2, 3] (wr := ([] : va_W)) (wN := (wX1 G h0 a0 f0 q_1.2)) rfl rfl rfl rfl rfl hl.1 (Nat.le_of_ble_eq_true rfl) dX1_bridgesInAll_23 (fun H locs hPD hS => ?_)
    refine lv_if_eq (tgt := 32) hx hb dX1_bridgesInAll_26 (by decide) (fun cc1 => ?_) (fun cc1 => ?_)
    · have h := (if_pos cc1).symm.trans h
      refine lv_iinc (v := l3 + 1) (lv' := [(3, .int (l3 + 1)), (0, .ref h0), (1, .int l1), (2, .int l2)]) hx hb dX1_bridgesInAll_32 hl (k := 3) rfl rfl (by decide) rfl (fun ls hl => ?_)
      refine lv_goto (tgt := 14) hx hb dX1_bridgesInAll_35 (by decide) ?_
      exact hk14 q_1.2 l1 l2 (l3 + 1) h _ _ _ hPD hS (lv_sub hl [1, 2, 3, 0] rfl)
    · have h := (if_neg cc1).symm.trans h
      refine lv_iinc (v := l1 + 1) (lv' := [(1, .int (l1 + 1)), (0, .ref h0), (2, .int l2), (3, .int l3)]) hx hb dX1_bridgesInAll_29 hl (k := 1) rfl rfl (by decide) rfl (fun ls hl => ?_)
      refine lv_iinc (v := l3 + 1) (lv' := [(3, .int (l3 + 1)), (1, .int (l1 + 1)), (0, .ref h0), (2, .int l2)]) hx hb dX1_bridgesInAll_32 hl (k := 3) rfl rfl (by decide) rfl (fun ls hl => ?_)
      refine lv_goto (tgt := 14) hx hb dX1_bridgesInAll_35 (by decide) ?_
      exact hk14 q_1.2 (l1 + 1) l2 (l3 + 1) h _ _ _ hPD hS (lv_sub hl [2, 1, 3, 0] rfl)
set_option maxRecDepth 100000 in
set_option maxHeartbeats 4000000 in
theorem ww_f1_bridgesInAll_l14  (C0 : Cx cX1_bridgesInAll 4 (some .int) RX1 p s m args meth c G DA) {h0 : Nat} {a0 : Nat → Nat} {f0 : Nat → Int32}  {k4 : (Nat → Nat → Int32) → Int32 → Int32 → Option (Int32 × (Nat → Nat → Int32))} {res : Int32 × (Nat → Nat → Int32)} (hk4 : ∀ (A0 : Nat → Nat → Int32) (l1 : Int32) (l2 : Int32), k4 A0 l1 l2 = some res → ∀ (H : Heap) (locs : List Loc) (ls : Array Slot), WD G DA (wX1 G h0 a0 f0 A0) H → va_S DA s.heap H locs → lv_has ls 4 [(0, .ref h0), (1, .int l1), (2, .int l2)] → W p l e rmX1_bridgesInAll s m args below meth c H locs 0 0 (MQ below (QI G DA res.1 (wX1 G h0 a0 f0 res.2)) args s 0 0 DA) (F0 m 4 ls [])) : ∀ (n : Nat) (A0 : Nat → Nat → Int32) (l1 : Int32) (l2 : Int32) (l3 : Int32), f1_bridgesInAll_l14 f0 k4 n A0 l1 l2 l3 = some res → ∀ (H : Heap) (locs : List Loc) (ls : Array Slot), WD G DA (wX1 G h0 a0 f0 A0) H → va_S DA s.heap H locs → lv_has ls 4 [(0, .ref h0), (1, .int l1), (2, .int l2), (3, .int l3)] → W p l e rmX1_bridgesInAll s m args below meth c H locs 0 0 (MQ below (QI G DA res.1 (wX1 G h0 a0 f0 res.2)) args s 0 0 DA) (F0 m 14 ls []) := by
  intro n
  induction n with
  | zero => intro A0 l1 l2 l3 h; cases h
  | succ n ih => intro A0 l1 l2 l3 h; exact ww_f1_bridgesInAll_b14 C0 hk4 ih A0 l1 l2 l3 h
set_option maxRecDepth 100000 in
set_option maxHeartbeats 4000000 in
theorem ww_f1_bridgesInAll_b4  (C0 : Cx cX1_bridgesInAll 4 (some .int) RX1 p s m args meth c G DA) {h0 : Nat} {a0 : Nat → Nat} {f0 : Nat → Int32}  {k4 : (Nat → Nat → Int32) → Int32 → Int32 → Option (Int32 × (Nat → Nat → Int32))} {res : Int32 × (Nat → Nat → Int32)}  (hk4 : ∀ (A0 : Nat → Nat → Int32) (l1 : Int32) (l2 : Int32), k4 A0 l1 l2 = some res → ∀ (H : Heap) (locs : List Loc) (ls : Array Slot), WD G DA (wX1 G h0 a0 f0 A0) H → va_S DA s.heap H locs → lv_has ls 4 [(0, .ref h0), (1, .int l1), (2, .int l2)] → W p l e rmX1_bridgesInAll s m args below meth c H locs 0 0 (MQ below (QI G DA res.1 (wX1 G h0 a0 f0 res.2)) args s 0 0 DA) (F0 m 4 ls [])) : ∀ (A0 : Nat → Nat → Int32) (l1 : Int32) (l2 : Int32), f1_bridgesInAll_b4 f0  k4 A0 l1 l2 = some res → ∀ (H : Heap) (locs : List Loc) (ls : Array Slot), WD G DA (wX1 G h0 a0 f0 A0) H → va_S DA s.heap H locs → lv_has ls 4 [(0, .ref h0), (1, .int l1), (2, .int l2)] → W p l e rmX1_bridgesInAll s m args below meth c H locs 0 0 (MQ below (QI G DA res.1 (wX1 G h0 a0 f0 res.2)) args s 0 0 DA) (F0 m 4 ls []) := by
  obtain ⟨hx, hb, hml, hown, hts⟩ := C0.1
  have hK := C0.2.2.2.1
  intro A0 l1 l2 h _ _ _ hPD hS hl
  unfold f1_bridgesInAll_b4 at h
  refine lv_iload_n hx hb dX1_bridgesInAll_4 rfl (lv_at hl 2 rfl) ?_
  refine lv_bipush (v := 16) hx hb dX1_bridgesInAll_5 (by decide) ?_
  refine lv_icmp_ge (tgt := 44) hx hb dX1_bridgesInAll_7 (by decide) (fun cc1 => ?_) (fun cc1 => ?_)
  · have h := (if_pos cc1).symm.trans h
    refine lv_iload_n hx hb dX1_bridgesInAll_44 rfl (lv_at hl 1 rfl) ?_
    obtain rfl := Option.some.inj h
    exact eI C0 hPD.1 hPD.2 hS rfl dX1_bridgesInAll_45
  · have h := (if_neg cc1).symm.trans h
    refine lv_iload_n hx hb dX1_bridgesInAll_10 rfl (lv_at hl 2 rfl) ?_
    refine lv_iconst (v := 1) hx hb dX1_bridgesInAll_11 (by decide) ?_
    refine lv_iadd hx hb dX1_bridgesInAll_12 ?_
    refine lv_istore_n (lv' := [(3, .int (l2 + 1)), (0, .ref h0), (1, .int l1), (2, .int l2)]) hx hb dX1_bridgesInAll_13 rfl hl (by decide) rfl (fun ls hl => ?_)
    exact ww_f1_bridgesInAll_l14 C0 hk4 NF A0 l1 l2 (l2 + 1) h _ _ _ hPD hS (lv_sub hl [1, 2, 3, 0] rfl)
set_option maxRecDepth 100000 in
set_option maxHeartbeats 4000000 in
theorem ww_f1_bridgesInAll_l4  (C0 : Cx cX1_bridgesInAll 4 (some .int) RX1 p s m args meth c G DA) {h0 : Nat} {a0 : Nat → Nat} {f0 : Nat → Int32}   {res : Int32 × (Nat → Nat → Int32)}  : ∀ (n : Nat) (A0 : Nat → Nat → Int32) (l1 : Int32) (l2 : Int32), f1_bridgesInAll_l4 f0  n A0 l1 l2 = some res → ∀ (H : Heap) (locs : List Loc) (ls : Array Slot), WD G DA (wX1 G h0 a0 f0 A0) H → va_S DA s.heap H locs → lv_has ls 4 [(0, .ref h0), (1, .int l1), (2, .int l2)] → W p l e rmX1_bridgesInAll s m args below meth c H locs 0 0 (MQ below (QI G DA res.1 (wX1 G h0 a0 f0 res.2)) args s 0 0 DA) (F0 m 4 ls []) := by
  intro n
  induction n with
  | zero => intro A0 l1 l2 h; cases h
  | succ n ih => intro A0 l1 l2 h; exact ww_f1_bridgesInAll_b4 C0  ih A0 l1 l2 h
set_option maxRecDepth 100000 in
set_option maxHeartbeats 4000000 in
theorem kt_X1_bridgesInAll (l : Launch) (G : Gp) (h0 : Nat) (a0 : Nat → Nat) (f0 : Nat → Int32) (A0 : Nat → Nat → Int32) : ∀ {r : Int32 × (Nat → Nat → Int32)}, f1_bridgesInAll f0 A0 = some r → CtrI l yX1_bridgesInAll cX1_bridgesInAll 4 (some .int) rmX1_bridgesInAll G [.ref h0] (wX1 G h0 a0 f0 A0) r.1 (wX1 G h0 a0 f0 r.2) := by
  intro res h
  refine ctrI_of (cc := cX1_bridgesInAll) (maxL := 4) (ret := (some .int)) (by decide +kernel) rfl (Nat.le_of_ble_eq_true rfl) (fun p e s m below meth c DA C0 hP hD ls hl => ?_)
  have hPD : WD G DA (wX1 G h0 a0 f0 A0) s.heap := ⟨hP, hD⟩
  have hS : va_S DA s.heap s.heap [] := va_S.rf
  have hl : lv_has ls 4 [(0, .ref h0)] := hl
  obtain ⟨hx, hb, hml, hown, hts⟩ := C0.1
  have hK := C0.2.2.2.1
  unfold f1_bridgesInAll at h
  refine lv_iconst (v := 0) hx hb dX1_bridgesInAll_0 (by decide) ?_
  refine lv_istore_n (lv' := [(1, .int 0), (0, .ref h0)]) hx hb dX1_bridgesInAll_1 rfl hl (by decide) rfl (fun ls hl => ?_)
  refine lv_iconst (v := 0) hx hb dX1_bridgesInAll_2 (by decide) ?_
  refine lv_istore_n (lv' := [(2, .int 0), (1, .int 0), (0, .ref h0)]) hx hb dX1_bridgesInAll_3 rfl hl (by decide) rfl (fun ls hl => ?_)
  exact ww_f1_bridgesInAll_l4 C0 NF A0 0 0 h _ _ _ hPD hS (lv_sub hl [2, 1, 0] rfl)
abbrev rmX1_firstBridge : Room := { frames := 5, cells := 0, slots := 0, locals := 113 }
set_option maxRecDepth 100000 in
set_option maxHeartbeats 4000000 in
theorem ww_f1_firstBridge_b12  (C0 : Cx cX1_firstBridge 3 (some .int) RX1 p s m args meth c G DA) {h0 : Nat} {a0 : Nat → Nat} {f0 : Nat → Int32}  {k2 : (Nat → Nat → Int32) → Int32 → Option (Int32 × (Nat → Nat → Int32))} {k12 : (Nat → Nat → Int32) → Int32 → Int32 → Option (Int32 × (Nat → Nat → Int32))} {res : Int32 × (Nat → Nat → Int32)} (hk2 : ∀ (A0 : Nat → Nat → Int32) (l1 : Int32), k2 A0 l1 = some res → ∀ (H : Heap) (locs : List Loc) (ls : Array Slot), WD G DA (wX1 G h0 a0 f0 A0) H → va_S DA s.heap H locs → lv_has ls 3 [(0, .ref h0), (1, .int l1)] → W p l e rmX1_firstBridge s m args below meth c H locs 0 0 (MQ below (QI G DA res.1 (wX1 G h0 a0 f0 res.2)) args s 0 0 DA) (F0 m 2 ls [])) (hk12 : ∀ (A0 : Nat → Nat → Int32) (l1 : Int32) (l2 : Int32), k12 A0 l1 l2 = some res → ∀ (H : Heap) (locs : List Loc) (ls : Array Slot), WD G DA (wX1 G h0 a0 f0 A0) H → va_S DA s.heap H locs → lv_has ls 3 [(0, .ref h0), (1, .int l1), (2, .int l2)] → W p l e rmX1_firstBridge s m args below meth c H locs 0 0 (MQ below (QI G DA res.1 (wX1 G h0 a0 f0 res.2)) args s 0 0 DA) (F0 m 12 ls [])) : ∀ (A0 : Nat → Nat → Int32) (l1 : Int32) (l2 : Int32), f1_firstBridge_b12 f0 k2 k12 A0 l1 l2 = some res → ∀ (H : Heap) (locs : List Loc) (ls : Array Slot), WD G DA (wX1 G h0 a0 f0 A0) H → va_S DA s.heap H locs → lv_has ls 3 [(0, .ref h0), (1, .int l1), (2, .int l2)] → W p l e rmX1_firstBridge s m args below meth c H locs 0 0 (MQ below (QI G DA res.1 (wX1 G h0 a0 f0 res.2)) args s 0 0 DA) (F0 m 12 ls []) := by
  obtain ⟨hx, hb, hml, hown, hts⟩ := C0.1
  have hK := C0.2.2.2.1
  intro A0 l1 l2 h _ _ _ hPD hS hl
  unfold f1_firstBridge_b12 at h
  refine lv_iload_n hx hb dX1_firstBridge_12 rfl (lv_at hl 2 rfl) ?_
  refine lv_bipush (v := 16) hx hb dX1_firstBridge_13 (by decide) ?_
  refine lv_icmp_ge (tgt := 40) hx hb dX1_firstBridge_15 (by decide) (fun cc1 => ?_) (fun cc1 => ?_)
  · have h := (if_pos cc1).symm.trans h
    refine lv_iinc (v := l1 + 1) (lv' := [(1, .int (l1 + 1)), (0, .ref h0), (2, .int l2)]) hx hb dX1_firstBridge_40 hl (k := 1) rfl rfl (by decide) rfl (fun ls hl => ?_)
    refine lv_goto (tgt := 2) hx hb dX1_firstBridge_43 (by decide) ?_
    exact hk2 A0 (l1 + 1) h _ _ _ hPD hS (lv_sub hl [1, 0] rfl)
  · have h := (if_neg cc1).symm.trans h
    refine lv_aload_n hx hb dX1_firstBridge_18 rfl (lv_at hl 0 rfl) ?_
    refine lv_iload_n hx hb dX1_firstBridge_19 rfl (lv_at hl 1 rfl) ?_
    refine lv_iload_n hx hb dX1_firstBridge_20 rfl (lv_at hl 2 rfl) ?_
    obtain ⟨q_1, hq_1, h⟩ := ob2 h
    refine kVI (As := [.int l1, .int l2]) (rest := []) C0 (kt_X1_isBridge l G h0 a0 f0 A0 l1 l2 hq_1) gi_V_X1_67_X1_isBridge (n := 2) rfl (by decide +kernel) rfl ⟨rfl, rfl, Nat.le_of_ble_eq_true rfl, Nat.le_of_ble_eq_true rfl⟩ hPD hS 0 1 rfl rfl rfl [0, 1, 2, 3] [] [0, 1, 2, 3] (wr := ([] : va_W)) (wN := (wX1 G h0 a0 f0 q_1.2)) rfl rfl rfl rfl rfl hl.1 (Nat.le_of_ble_eq_true rfl) dX1_firstBridge_21 (fun H locs hPD hS => ?_)
    refine lv_if_eq (tgt := 34) hx hb dX1_firstBridge_24 (by decide) (fun cc1 => ?_) (fun cc1 => ?_)
    · have h := (if_pos cc1).symm.trans h
      refine lv_iinc (v := l2 + 1) (lv' := [(2, .int (l2 + 1)), (0, .ref h0), (1, .int l1)]) hx hb dX1_firstBridge_34 hl (k := 2) rfl rfl (by decide) rfl (fun ls hl => ?_)
      refine lv_goto (tgt := 12) hx hb dX1_firstBridge_37 (by decide) ?_
      exact hk12 q_1.2 l1 (l2 + 1) h _ _ _ hPD hS (lv_sub hl [1, 2, 0] rfl)
    · have h := (if_neg cc1).symm.trans h
      refine lv_iload_n hx hb dX1_firstBridge_27 rfl (lv_at hl 1 rfl) ?_
      refine lv_bipush (v := 16) hx hb dX1_firstBridge_28 (by decide) ?_
      refine lv_imul hx hb dX1_firstBridge_30 ?_
      refine lv_iload_n hx hb dX1_firstBridge_31 rfl (lv_at hl 2 rfl) ?_
      refine lv_iadd hx hb dX1_firstBridge_32 ?_
      obtain rfl := Option.some.inj h
      exact eI C0 hPD.1 hPD.2 hS rfl dX1_firstBridge_33
set_option maxRecDepth 100000 in
set_option maxHeartbeats 4000000 in
theorem ww_f1_firstBridge_l12  (C0 : Cx cX1_firstBridge 3 (some .int) RX1 p s m args meth c G DA) {h0 : Nat} {a0 : Nat → Nat} {f0 : Nat → Int32}  {k2 : (Nat → Nat → Int32) → Int32 → Option (Int32 × (Nat → Nat → Int32))} {res : Int32 × (Nat → Nat → Int32)} (hk2 : ∀ (A0 : Nat → Nat → Int32) (l1 : Int32), k2 A0 l1 = some res → ∀ (H : Heap) (locs : List Loc) (ls : Array Slot), WD G DA (wX1 G h0 a0 f0 A0) H → va_S DA s.heap H locs → lv_has ls 3 [(0, .ref h0), (1, .int l1)] → W p l e rmX1_firstBridge s m args below meth c H locs 0 0 (MQ below (QI G DA res.1 (wX1 G h0 a0 f0 res.2)) args s 0 0 DA) (F0 m 2 ls [])) : ∀ (n : Nat) (A0 : Nat → Nat → Int32) (l1 : Int32) (l2 : Int32), f1_firstBridge_l12 f0 k2 n A0 l1 l2 = some res → ∀ (H : Heap) (locs : List Loc) (ls : Array Slot), WD G DA (wX1 G h0 a0 f0 A0) H → va_S DA s.heap H locs → lv_has ls 3 [(0, .ref h0), (1, .int l1), (2, .int l2)] → W p l e rmX1_firstBridge s m args below meth c H locs 0 0 (MQ below (QI G DA res.1 (wX1 G h0 a0 f0 res.2)) args s 0 0 DA) (F0 m 12 ls []) := by
  intro n
  induction n with
  | zero => intro A0 l1 l2 h; cases h
  | succ n ih => intro A0 l1 l2 h; exact ww_f1_firstBridge_b12 C0 hk2 ih A0 l1 l2 h
set_option maxRecDepth 100000 in
set_option maxHeartbeats 4000000 in
theorem ww_f1_firstBridge_b2  (C0 : Cx cX1_firstBridge 3 (some .int) RX1 p s m args meth c G DA) {h0 : Nat} {a0 : Nat → Nat} {f0 : Nat → Int32}  {k2 : (Nat → Nat → Int32) → Int32 → Option (Int32 × (Nat → Nat → Int32))} {res : Int32 × (Nat → Nat → Int32)}  (hk2 : ∀ (A0 : Nat → Nat → Int32) (l1 : Int32), k2 A0 l1 = some res → ∀ (H : Heap) (locs : List Loc) (ls : Array Slot), WD G DA (wX1 G h0 a0 f0 A0) H → va_S DA s.heap H locs → lv_has ls 3 [(0, .ref h0), (1, .int l1)] → W p l e rmX1_firstBridge s m args below meth c H locs 0 0 (MQ below (QI G DA res.1 (wX1 G h0 a0 f0 res.2)) args s 0 0 DA) (F0 m 2 ls [])) : ∀ (A0 : Nat → Nat → Int32) (l1 : Int32), f1_firstBridge_b2 f0  k2 A0 l1 = some res → ∀ (H : Heap) (locs : List Loc) (ls : Array Slot), WD G DA (wX1 G h0 a0 f0 A0) H → va_S DA s.heap H locs → lv_has ls 3 [(0, .ref h0), (1, .int l1)] → W p l e rmX1_firstBridge s m args below meth c H locs 0 0 (MQ below (QI G DA res.1 (wX1 G h0 a0 f0 res.2)) args s 0 0 DA) (F0 m 2 ls []) := by
  obtain ⟨hx, hb, hml, hown, hts⟩ := C0.1
  have hK := C0.2.2.2.1
  intro A0 l1 h _ _ _ hPD hS hl
  unfold f1_firstBridge_b2 at h
  refine lv_iload_n hx hb dX1_firstBridge_2 rfl (lv_at hl 1 rfl) ?_
  refine lv_bipush (v := 16) hx hb dX1_firstBridge_3 (by decide) ?_
  refine lv_icmp_ge (tgt := 46) hx hb dX1_firstBridge_5 (by decide) (fun cc1 => ?_) (fun cc1 => ?_)
  · have h := (if_pos cc1).symm.trans h
    refine lv_iconst (v := (-1)) hx hb dX1_firstBridge_46 (by decide) ?_
    obtain rfl := Option.some.inj h
    exact eI C0 hPD.1 hPD.2 hS rfl dX1_firstBridge_47
  · have h := (if_neg cc1).symm.trans h
    refine lv_iload_n hx hb dX1_firstBridge_8 rfl (lv_at hl 1 rfl) ?_
    refine lv_iconst (v := 1) hx hb dX1_firstBridge_9 (by decide) ?_
    refine lv_iadd hx hb dX1_firstBridge_10 ?_
    refine lv_istore_n (lv' := [(2, .int (l1 + 1)), (0, .ref h0), (1, .int l1)]) hx hb dX1_firstBridge_11 rfl hl (by decide) rfl (fun ls hl => ?_)
    exact ww_f1_firstBridge_l12 C0 hk2 NF A0 l1 (l1 + 1) h _ _ _ hPD hS (lv_sub hl [1, 2, 0] rfl)
set_option maxRecDepth 100000 in
set_option maxHeartbeats 4000000 in
theorem ww_f1_firstBridge_l2  (C0 : Cx cX1_firstBridge 3 (some .int) RX1 p s m args meth c G DA) {h0 : Nat} {a0 : Nat → Nat} {f0 : Nat → Int32}   {res : Int32 × (Nat → Nat → Int32)}  : ∀ (n : Nat) (A0 : Nat → Nat → Int32) (l1 : Int32), f1_firstBridge_l2 f0  n A0 l1 = some res → ∀ (H : Heap) (locs : List Loc) (ls : Array Slot), WD G DA (wX1 G h0 a0 f0 A0) H → va_S DA s.heap H locs → lv_has ls 3 [(0, .ref h0), (1, .int l1)] → W p l e rmX1_firstBridge s m args below meth c H locs 0 0 (MQ below (QI G DA res.1 (wX1 G h0 a0 f0 res.2)) args s 0 0 DA) (F0 m 2 ls []) := by
  intro n
  induction n with
  | zero => intro A0 l1 h; cases h
  | succ n ih => intro A0 l1 h; exact ww_f1_firstBridge_b2 C0  ih A0 l1 h
set_option maxRecDepth 100000 in
set_option maxHeartbeats 4000000 in
theorem kt_X1_firstBridge (l : Launch) (G : Gp) (h0 : Nat) (a0 : Nat → Nat) (f0 : Nat → Int32) (A0 : Nat → Nat → Int32) : ∀ {r : Int32 × (Nat → Nat → Int32)}, f1_firstBridge f0 A0 = some r → CtrI l yX1_firstBridge cX1_firstBridge 3 (some .int) rmX1_firstBridge G [.ref h0] (wX1 G h0 a0 f0 A0) r.1 (wX1 G h0 a0 f0 r.2) := by
  intro res h
  refine ctrI_of (cc := cX1_firstBridge) (maxL := 3) (ret := (some .int)) (by decide +kernel) rfl (Nat.le_of_ble_eq_true rfl) (fun p e s m below meth c DA C0 hP hD ls hl => ?_)
  have hPD : WD G DA (wX1 G h0 a0 f0 A0) s.heap := ⟨hP, hD⟩
  have hS : va_S DA s.heap s.heap [] := va_S.rf
  have hl : lv_has ls 3 [(0, .ref h0)] := hl
  obtain ⟨hx, hb, hml, hown, hts⟩ := C0.1
  have hK := C0.2.2.2.1
  unfold f1_firstBridge at h
  refine lv_iconst (v := 0) hx hb dX1_firstBridge_0 (by decide) ?_
  refine lv_istore_n (lv' := [(1, .int 0), (0, .ref h0)]) hx hb dX1_firstBridge_1 rfl hl (by decide) rfl (fun ls hl => ?_)
  exact ww_f1_firstBridge_l2 C0 NF A0 0 h _ _ _ hPD hS (lv_sub hl [1, 0] rfl)
abbrev rmX9_lowestOf : Room := { frames := 2, cells := 0, slots := 0, locals := 43 }
set_option maxRecDepth 100000 in
set_option maxHeartbeats 4000000 in
theorem ww_f9_lowestOf_b2  (C0 : Cx cX9_lowestOf 2 (some .int) RX9 p s m args meth c G DA) {p0 : Int32}  {k2 : Int32 → Option (Int32)} {res : Int32}  (hk2 : ∀ (l1 : Int32), k2 l1 = some res → ∀ (H : Heap) (locs : List Loc) (ls : Array Slot), WD G DA ([] : va_W) H → va_S DA s.heap H locs → lv_has ls 2 [(0, .int p0), (1, .int l1)] → W p l e rmX9_lowestOf s m args below meth c H locs 0 0 (MQ below (QI G DA res ([] : va_W)) args s 0 0 DA) (F0 m 2 ls [])) : ∀ (l1 : Int32), f9_lowestOf_b2 p0  k2 l1 = some res → ∀ (H : Heap) (locs : List Loc) (ls : Array Slot), WD G DA ([] : va_W) H → va_S DA s.heap H locs → lv_has ls 2 [(0, .int p0), (1, .int l1)] → W p l e rmX9_lowestOf s m args below meth c H locs 0 0 (MQ below (QI G DA res ([] : va_W)) args s 0 0 DA) (F0 m 2 ls []) := by
  obtain ⟨hx, hb, hml, hown, hts⟩ := C0.1
  have hK := C0.2.2.2.1
  intro l1 h _ _ _ hPD hS hl
  unfold f9_lowestOf_b2 at h
  refine lv_iload_n hx hb dX9_lowestOf_2 rfl (lv_at hl 1 rfl) ?_
  refine lv_bipush (v := 31) hx hb dX9_lowestOf_3 (by decide) ?_
  refine lv_icmp_ge (tgt := 22) hx hb dX9_lowestOf_5 (by decide) (fun cc1 => ?_) (fun cc1 => ?_)
  · have h := (if_pos cc1).symm.trans h
    refine lv_iload_n hx hb dX9_lowestOf_22 rfl (lv_at hl 1 rfl) ?_
    obtain rfl := Option.some.inj h
    exact eI C0 hPD.1 hPD.2 hS rfl dX9_lowestOf_23
  · have h := (if_neg cc1).symm.trans h
    refine lv_iload_n hx hb dX9_lowestOf_8 rfl (lv_at hl 0 rfl) ?_
    refine lv_iload_n hx hb dX9_lowestOf_9 rfl (lv_at hl 1 rfl) ?_
    refine kSI (As := [.int p0, .int l1]) (rest := []) C0 (kt_X9_has l G  p0 l1) gi_S_X9_290_X9_has (n := 2) rfl (by decide +kernel) ⟨rfl, rfl, Nat.le_of_ble_eq_true rfl, Nat.le_of_ble_eq_true rfl⟩ hPD hS [] [] [] (wr := ([] : va_W)) (wN := ([] : va_W)) rfl rfl rfl rfl rfl hl.1 (Nat.le_of_ble_eq_true rfl) dX9_lowestOf_10 (fun H locs hPD hS => ?_)
    refine lv_if_ne (tgt := 22) hx hb dX9_lowestOf_13 (by decide) (fun cc1 => ?_) (fun cc1 => ?_)
    · have h := (if_neg cc1).symm.trans h
      refine lv_iload_n hx hb dX9_lowestOf_22 rfl (lv_at hl 1 rfl) ?_
      obtain rfl := Option.some.inj h
      exact eI C0 hPD.1 hPD.2 hS rfl dX9_lowestOf_23
    · have h := (if_pos cc1).symm.trans h
      refine lv_iinc (v := l1 + 1) (lv' := [(1, .int (l1 + 1)), (0, .int p0)]) hx hb dX9_lowestOf_16 hl (k := 1) rfl rfl (by decide) rfl (fun ls hl => ?_)
      refine lv_goto (tgt := 2) hx hb dX9_lowestOf_19 (by decide) ?_
      exact hk2 (l1 + 1) h _ _ _ hPD hS (lv_sub hl [1, 0] rfl)
set_option maxRecDepth 100000 in
set_option maxHeartbeats 4000000 in
theorem ww_f9_lowestOf_l2  (C0 : Cx cX9_lowestOf 2 (some .int) RX9 p s m args meth c G DA) {p0 : Int32}   {res : Int32}  : ∀ (n : Nat) (l1 : Int32), f9_lowestOf_l2 p0  n l1 = some res → ∀ (H : Heap) (locs : List Loc) (ls : Array Slot), WD G DA ([] : va_W) H → va_S DA s.heap H locs → lv_has ls 2 [(0, .int p0), (1, .int l1)] → W p l e rmX9_lowestOf s m args below meth c H locs 0 0 (MQ below (QI G DA res ([] : va_W)) args s 0 0 DA) (F0 m 2 ls []) := by
  intro n
  induction n with
  | zero => intro l1 h; cases h
  | succ n ih => intro l1 h; exact ww_f9_lowestOf_b2 C0  ih l1 h
set_option maxRecDepth 100000 in
set_option maxHeartbeats 4000000 in
theorem kt_X9_lowestOf (l : Launch) (G : Gp) (p0 : Int32) : ∀ {r : Int32}, f9_lowestOf p0 = some r → CtrI l yX9_lowestOf cX9_lowestOf 2 (some .int) rmX9_lowestOf G [.int p0] ([] : va_W) r ([] : va_W) := by
  intro res h
  refine ctrI_of (cc := cX9_lowestOf) (maxL := 2) (ret := (some .int)) (by decide +kernel) rfl (Nat.le_of_ble_eq_true rfl) (fun p e s m below meth c DA C0 hP hD ls hl => ?_)
  have hPD : WD G DA ([] : va_W) s.heap := ⟨hP, hD⟩
  have hS : va_S DA s.heap s.heap [] := va_S.rf
  have hl : lv_has ls 2 [(0, .int p0)] := hl
  obtain ⟨hx, hb, hml, hown, hts⟩ := C0.1
  have hK := C0.2.2.2.1
  unfold f9_lowestOf at h
  refine lv_iconst (v := 0) hx hb dX9_lowestOf_0 (by decide) ?_
  refine lv_istore_n (lv' := [(1, .int 0), (0, .int p0)]) hx hb dX9_lowestOf_1 rfl hl (by decide) rfl (fun ls hl => ?_)
  exact ww_f9_lowestOf_l2 C0 NF 0 h _ _ _ hPD hS (lv_sub hl [1, 0] rfl)
abbrev rmGX1_leastPosts (d : Nat) : Room := { frames := d + 3, cells := 0, slots := 0, locals := 27 * d + 64 }
set_option maxRecDepth 100000 in
set_option maxHeartbeats 4000000 in
theorem ww_f1_leastPosts_b28 {d : Nat} {rec : (Nat → Int32) → (Nat → Nat → Int32) → Int32 → Int32 → Int32 → Option (Int32)} (hrec0 : ∀ (l : Launch) (G : Gp) (h0 : Nat) (a0 : Nat → Nat) (f0 : Nat → Int32) (A0 : Nat → Nat → Int32) (p1 : Int32) (p2 : Int32) (p3 : Int32), ∀ {r : Int32}, rec f0 A0 p1 p2 p3 = some r → CtrI l yX1_leastPosts cX1_leastPosts 8 (some .int) (rmGX1_leastPosts d) G [.ref h0, .int p1, .int p2, .int p3] (wX1 G h0 a0 f0 A0) r (wX1 G h0 a0 f0 A0)) (hdd : True)  (C0 : Cx cX1_leastPosts 8 (some .int) RX1 p s m args meth c G DA) {h0 : Nat} {a0 : Nat → Nat} {f0 : Nat → Int32} {A0 : Nat → Nat → Int32} {p1 : Int32} {p2 : Int32} {p3 : Int32}  {k28 : Int32 → Int32 → Int32 → Option (Int32)} {res : Int32}  (hk28 : ∀ (l4 : Int32) (l5 : Int32) (l6 : Int32), k28 l4 l5 l6 = some res → ∀ (H : Heap) (locs : List Loc) (ls : Array Slot), WD G DA (wX1 G h0 a0 f0 A0) H → va_S DA s.heap H locs → lv_has ls 8 [(0, .ref h0), (1, .int p1), (2, .int p2), (3, .int p3), (4, .int l4), (5, .int l5), (6, .int l6)] → W p l e (rmGX1_leastPosts (d + 1)) s m args below meth c H locs 0 0 (MQ below (QI G DA res (wX1 G h0 a0 f0 A0)) args s 0 0 DA) (F0 m 28 ls [])) : ∀ (l4 : Int32) (l5 : Int32) (l6 : Int32), f1_leastPosts_b28 rec f0 A0 p1 p2 p3  k28 l4 l5 l6 = some res → ∀ (H : Heap) (locs : List Loc) (ls : Array Slot), WD G DA (wX1 G h0 a0 f0 A0) H → va_S DA s.heap H locs → lv_has ls 8 [(0, .ref h0), (1, .int p1), (2, .int p2), (3, .int p3), (4, .int l4), (5, .int l5), (6, .int l6)] → W p l e (rmGX1_leastPosts (d + 1)) s m args below meth c H locs 0 0 (MQ below (QI G DA res (wX1 G h0 a0 f0 A0)) args s 0 0 DA) (F0 m 28 ls []) := by
  obtain ⟨hx, hb, hml, hown, hts⟩ := C0.1
  have hK := C0.2.2.2.1
  intro l4 l5 l6 h _ _ _ hPD hS hl
  unfold f1_leastPosts_b28 at h
  refine lv_iload hx hb dX1_leastPosts_28 (lv_at hl 6 rfl) ?_
  refine lv_bipush (v := 16) hx hb dX1_leastPosts_30 (by decide) ?_
  refine lv_icmp_ge (tgt := 99) hx hb dX1_leastPosts_32 (by decide) (fun cc1 => ?_) (fun cc1 => ?_)
  · have h := (if_pos cc1).symm.trans h
    refine lv_iload hx hb dX1_leastPosts_99 (lv_at hl 5 rfl) ?_
    obtain rfl := Option.some.inj h
    exact eI C0 hPD.1 hPD.2 hS rfl dX1_leastPosts_101
  · have h := (if_neg cc1).symm.trans h
    refine lv_iload hx hb dX1_leastPosts_35 (lv_at hl 4 rfl) ?_
    refine lv_iload hx hb dX1_leastPosts_37 (lv_at hl 6 rfl) ?_
    refine kNI (As := [.int l4, .int l6]) (rest := []) C0 (kt_X9_has l G  l4 l6) gi_U_X9_has (host := "IdleCrimes") (index := 29) (List.mem_of_getElem? (i := 9) rfl) gw_6 gw_74 (n := 2) rfl (by decide +kernel) ⟨rfl, rfl, by simp only [rmGX1_leastPosts, rmX9_has]; omega, by simp only [rmGX1_leastPosts, rmX9_has]; omega⟩ hPD hS [] [0, 1, 2, 3] [0, 1, 2, 3] (wr := (wX1 G h0 a0 f0 A0)) (wN := (wX1 G h0 a0 f0 A0)) rfl rfl rfl rfl rfl hl.1 (Nat.le_of_ble_eq_true rfl) dX1_leastPosts_39 (fun H locs hPD hS => ?_)
    refine lv_if_eq (tgt := 93) hx hb dX1_leastPosts_42 (by decide) (fun cc1 => ?_) (fun cc1 => ?_)
    · have h := (if_pos cc1).symm.trans h
      refine lv_iinc (v := l6 + 1) (lv' := [(6, .int (l6 + 1)), (0, .ref h0), (1, .int p1), (2, .int p2), (3, .int p3), (4, .int l4), (5, .int l5)]) hx hb dX1_leastPosts_93 hl (k := 6) rfl rfl (by decide) rfl (fun ls hl => ?_)
      refine lv_goto (tgt := 28) hx hb dX1_leastPosts_96 (by decide) ?_
      exact hk28 l4 l5 (l6 + 1) h _ _ _ hPD hS (lv_sub hl [1, 2, 3, 4, 5, 6, 0] rfl)
    · have h := (if_neg cc1).symm.trans h
      refine lv_aload_n hx hb dX1_leastPosts_45 rfl (lv_at hl 0 rfl) ?_
      refine lv_iload_n hx hb dX1_leastPosts_46 rfl (lv_at hl 1 rfl) ?_
      refine lv_iconst (v := 1) hx hb dX1_leastPosts_47 (by decide) ?_
      refine lv_iload hx hb dX1_leastPosts_48 (lv_at hl 6 rfl) ?_
      refine lv_ishl hx hb dX1_leastPosts_50 ?_
      refine lv_ior hx hb dX1_leastPosts_51 ?_
      refine lv_iload_n hx hb dX1_leastPosts_52 rfl (lv_at hl 2 rfl) ?_
      refine lv_aload_n hx hb dX1_leastPosts_53 rfl (lv_at hl 0 rfl) ?_
      refine lv_iload hx hb dX1_leastPosts_54 (lv_at hl 6 rfl) ?_
      refine kVI (As := [.int l6]) (rest := [.int p2, .int (p1 ||| (shl 1 l6)), .ref h0]) C0 (kt_X1_around l G h0 a0 f0 A0 l6) gi_V_X1_41_X1_around (n := 1) rfl (by decide +kernel) rfl ⟨rfl, rfl, by simp only [rmGX1_leastPosts, rmX1_around]; omega, by simp only [rmGX1_leastPosts, rmX1_around]; omega⟩ hPD hS 0 1 rfl rfl rfl [0, 1, 2, 3] [] [0, 1, 2, 3] (wr := ([] : va_W)) (wN := (wX1 G h0 a0 f0 A0)) rfl rfl rfl rfl rfl hl.1 (Nat.le_of_ble_eq_true rfl) dX1_leastPosts_56 (fun H locs hPD hS => ?_)
      refine lv_iconst (v := (-1)) hx hb dX1_leastPosts_59 (by decide) ?_
      refine lv_ixor hx hb dX1_leastPosts_60 ?_
      refine lv_iand hx hb dX1_leastPosts_61 ?_
      refine lv_iload_n hx hb dX1_leastPosts_62 rfl (lv_at hl 3 rfl) ?_
      refine lv_iconst (v := 1) hx hb dX1_leastPosts_63 (by decide) ?_
      refine lv_isub hx hb dX1_leastPosts_64 ?_
      obtain ⟨q_2, hq_2, h⟩ := ob2 h
      refine kSI (As := [.ref h0, .int (p1 ||| (shl 1 l6)), .int (p2 &&& ((f1_around f0 A0 l6) ^^^ (-1))), .int (p3 - 1)]) (rest := []) C0 (hrec0 l G h0 a0 f0 A0 (p1 ||| (shl 1 l6)) (p2 &&& ((f1_around f0 A0 l6) ^^^ (-1))) (p3 - 1) hq_2) gi_S_X1_77_X1_leastPosts (n := 4) rfl (by decide +kernel) ⟨rfl, rfl, by simp only [rmGX1_leastPosts]; omega, by simp only [rmGX1_leastPosts]; omega⟩ hPD hS [0, 1, 2, 3] [] [0, 1, 2, 3] (wr := ([] : va_W)) (wN := (wX1 G h0 a0 f0 A0)) rfl rfl rfl rfl rfl hl.1 (Nat.le_of_ble_eq_true rfl) dX1_leastPosts_65 (fun H locs hPD hS => ?_)
      refine lv_istore (lv' := [(7, .int q_2), (0, .ref h0), (1, .int p1), (2, .int p2), (3, .int p3), (4, .int l4), (5, .int l5), (6, .int l6)]) hx hb dX1_leastPosts_68 hl (by decide) rfl (fun ls hl => ?_)
      refine lv_iload hx hb dX1_leastPosts_70 (lv_at hl 0 rfl) ?_
      refine lv_iconst (v := (-1)) hx hb dX1_leastPosts_72 (by decide) ?_
      refine lv_icmp_eq (tgt := 93) hx hb dX1_leastPosts_73 (by decide) (fun cc1 => ?_) (fun cc1 => ?_)
      · have h := (if_pos cc1).symm.trans h
        refine lv_iinc (v := l6 + 1) (lv' := [(6, .int (l6 + 1)), (7, .int q_2), (0, .ref h0), (1, .int p1), (2, .int p2), (3, .int p3), (4, .int l4), (5, .int l5)]) hx hb dX1_leastPosts_93 hl (k := 7) rfl rfl (by decide) rfl (fun ls hl => ?_)
        refine lv_goto (tgt := 28) hx hb dX1_leastPosts_96 (by decide) ?_
        exact hk28 l4 l5 (l6 + 1) h _ _ _ hPD hS (lv_sub hl [2, 3, 4, 5, 6, 7, 0] rfl)
      · have h := (if_neg cc1).symm.trans h
        refine lv_iload hx hb dX1_leastPosts_76 (lv_at hl 6 rfl) ?_
        refine lv_iconst (v := (-1)) hx hb dX1_leastPosts_78 (by decide) ?_
        refine lv_icmp_eq (tgt := 89) hx hb dX1_leastPosts_79 (by decide) (fun cc1 => ?_) (fun cc1 => ?_)
        · have h := (if_pos cc1).symm.trans h
          refine lv_iload hx hb dX1_leastPosts_89 (lv_at hl 0 rfl) ?_
          refine lv_istore (lv' := [(5, .int q_2), (7, .int q_2), (0, .ref h0), (1, .int p1), (2, .int p2), (3, .int p3), (4, .int l4), (6, .int l6)]) hx hb dX1_leastPosts_91 hl (by decide) rfl (fun ls hl => ?_)
          refine lv_iinc (v := l6 + 1) (lv' := [(6, .int (l6 + 1)), (5, .int q_2), (7, .int q_2), (0, .ref h0), (1, .int p1), (2, .int p2), (3, .int p3), (4, .int l4)]) hx hb dX1_leastPosts_93 hl (k := 7) rfl rfl (by decide) rfl (fun ls hl => ?_)
          refine lv_goto (tgt := 28) hx hb dX1_leastPosts_96 (by decide) ?_
          exact hk28 l4 q_2 (l6 + 1) h _ _ _ hPD hS (lv_sub hl [3, 4, 5, 6, 7, 1, 0] rfl)
        · have h := (if_neg cc1).symm.trans h
          refine lv_iload hx hb dX1_leastPosts_82 (lv_at hl 0 rfl) ?_
          refine lv_iload hx hb dX1_leastPosts_84 (lv_at hl 6 rfl) ?_
          refine lv_icmp_ge (tgt := 93) hx hb dX1_leastPosts_86 (by decide) (fun cc1 => ?_) (fun cc1 => ?_)
          · have h := (if_pos cc1).symm.trans h
            refine lv_iinc (v := l6 + 1) (lv' := [(6, .int (l6 + 1)), (7, .int q_2), (0, .ref h0), (1, .int p1), (2, .int p2), (3, .int p3), (4, .int l4), (5, .int l5)]) hx hb dX1_leastPosts_93 hl (k := 7) rfl rfl (by decide) rfl (fun ls hl => ?_)
            refine lv_goto (tgt := 28) hx hb dX1_leastPosts_96 (by decide) ?_
            exact hk28 l4 l5 (l6 + 1) h _ _ _ hPD hS (lv_sub hl [2, 3, 4, 5, 6, 7, 0] rfl)
          · have h := (if_neg cc1).symm.trans h
            refine lv_iload hx hb dX1_leastPosts_89 (lv_at hl 0 rfl) ?_
            refine lv_istore (lv' := [(5, .int q_2), (7, .int q_2), (0, .ref h0), (1, .int p1), (2, .int p2), (3, .int p3), (4, .int l4), (6, .int l6)]) hx hb dX1_leastPosts_91 hl (by decide) rfl (fun ls hl => ?_)
            refine lv_iinc (v := l6 + 1) (lv' := [(6, .int (l6 + 1)), (5, .int q_2), (7, .int q_2), (0, .ref h0), (1, .int p1), (2, .int p2), (3, .int p3), (4, .int l4)]) hx hb dX1_leastPosts_93 hl (k := 7) rfl rfl (by decide) rfl (fun ls hl => ?_)
            refine lv_goto (tgt := 28) hx hb dX1_leastPosts_96 (by decide) ?_
            exact hk28 l4 q_2 (l6 + 1) h _ _ _ hPD hS (lv_sub hl [3, 4, 5, 6, 7, 1, 0] rfl)
set_option maxRecDepth 100000 in
set_option maxHeartbeats 4000000 in
theorem ww_f1_leastPosts_l28 {d : Nat} {rec : (Nat → Int32) → (Nat → Nat → Int32) → Int32 → Int32 → Int32 → Option (Int32)} (hrec0 : ∀ (l : Launch) (G : Gp) (h0 : Nat) (a0 : Nat → Nat) (f0 : Nat → Int32) (A0 : Nat → Nat → Int32) (p1 : Int32) (p2 : Int32) (p3 : Int32), ∀ {r : Int32}, rec f0 A0 p1 p2 p3 = some r → CtrI l yX1_leastPosts cX1_leastPosts 8 (some .int) (rmGX1_leastPosts d) G [.ref h0, .int p1, .int p2, .int p3] (wX1 G h0 a0 f0 A0) r (wX1 G h0 a0 f0 A0)) (hdd : True)  (C0 : Cx cX1_leastPosts 8 (some .int) RX1 p s m args meth c G DA) {h0 : Nat} {a0 : Nat → Nat} {f0 : Nat → Int32} {A0 : Nat → Nat → Int32} {p1 : Int32} {p2 : Int32} {p3 : Int32}   {res : Int32}  : ∀ (n : Nat) (l4 : Int32) (l5 : Int32) (l6 : Int32), f1_leastPosts_l28 rec f0 A0 p1 p2 p3  n l4 l5 l6 = some res → ∀ (H : Heap) (locs : List Loc) (ls : Array Slot), WD G DA (wX1 G h0 a0 f0 A0) H → va_S DA s.heap H locs → lv_has ls 8 [(0, .ref h0), (1, .int p1), (2, .int p2), (3, .int p3), (4, .int l4), (5, .int l5), (6, .int l6)] → W p l e (rmGX1_leastPosts (d + 1)) s m args below meth c H locs 0 0 (MQ below (QI G DA res (wX1 G h0 a0 f0 A0)) args s 0 0 DA) (F0 m 28 ls []) := by
  intro n
  induction n with
  | zero => intro l4 l5 l6 h; cases h
  | succ n ih => intro l4 l5 l6 h; exact ww_f1_leastPosts_b28 hrec0 hdd C0  ih l4 l5 l6 h
end WALK
