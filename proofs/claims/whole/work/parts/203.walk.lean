section WALK
variable {p : Program} {l : Launch} {e : Env} {s : State} {m : MethodId} {args : Array Value} {below : List Frame} {meth : Method} {c : Code} {G : Gp} {DA : Nat → Prop}
abbrev rmX1_stepsTo : Room := { frames := 1, cells := 0, slots := 0, locals := 22 }
set_option maxRecDepth 100000 in
set_option maxHeartbeats 4000000 in
theorem kt_X1_stepsTo (l : Launch) (G : Gp) (h0 : Nat) (a0 : Nat → Nat) (f0 : Nat → Int32) (A0 : Nat → Nat → Int32) (p1 : Int32) : CtrI l yX1_stepsTo cX1_stepsTo 2 (some .int) rmX1_stepsTo G [.ref h0, .int p1] (wX1 G h0 a0 f0 A0) (f1_stepsTo f0 A0 p1) (wX1 G h0 a0 f0 A0) := by
  obtain ⟨res, h⟩ : ∃ res, f1_stepsTo f0 A0 p1 = res := ⟨_, rfl⟩
  rw [h]
  refine ctrI_of (cc := cX1_stepsTo) (maxL := 2) (ret := (some .int)) (by decide +kernel) rfl (Nat.le_of_ble_eq_true rfl) (fun p e s m below meth c DA C0 hP hD ls hl => ?_)
  have hPD : WD G DA (wX1 G h0 a0 f0 A0) s.heap := ⟨hP, hD⟩
  have hS : va_S DA s.heap s.heap [] := va_S.rf
  have hl : lv_has ls 2 [(0, .ref h0), (1, .int p1)] := hl
  obtain ⟨hx, hb, hml, hown, hts⟩ := C0.1
  have hK := C0.2.2.2.1
  unfold f1_stepsTo at h
  refine lv_iload_n hx hb dX1_stepsTo_0 rfl (lv_at hl 1 rfl) ?_
  refine lv_iconst (v := 0) hx hb dX1_stepsTo_1 (by decide) ?_
  refine lv_bipush (v := 15) hx hb dX1_stepsTo_2 (by decide) ?_
  refine kNI (As := [.int p1, .int 0, .int 15]) (rest := []) C0 (kt_X9_within l G  p1 0 15) gi_U_X9_within (host := "IdleCrimes") (index := 25) (List.mem_of_getElem? (i := 8) rfl) gw_6 gw_25 (n := 3) rfl (by decide +kernel) ⟨rfl, rfl, Nat.le_of_ble_eq_true rfl, Nat.le_of_ble_eq_true rfl⟩ hPD hS [] [0, 1, 2, 3] [0, 1, 2, 3] (wr := (wX1 G h0 a0 f0 A0)) (wN := (wX1 G h0 a0 f0 A0)) rfl rfl rfl rfl rfl hl.1 (Nat.le_of_ble_eq_true rfl) dX1_stepsTo_4 (fun H locs hPD hS => ?_)
  refine lv_if_eq (tgt := 21) hx hb dX1_stepsTo_7 (by decide) (fun cc1 => ?_) (fun cc1 => ?_)
  · have h := (if_pos cc1).symm.trans h
    refine lv_iconst (v := (-1)) hx hb dX1_stepsTo_21 (by decide) ?_
    subst h
    exact eI C0 hPD.1 hPD.2 hS rfl dX1_stepsTo_22
  · have h := (if_neg cc1).symm.trans h
    refine lv_aload_n hx hb dX1_stepsTo_10 rfl (lv_at hl 0 rfl) ?_
    refine va_get (D := G.1) (ci := 1) (v := .ref (a0 2)) (C := RX1) (T := TX1) (N := 4) hx hb hts inlX1 hown hK hPD.1 0 rfl rfl 2 (by decide) (hts _ gw_82) (fun _ h9 => h9) rfl dX1_stepsTo_11 ?_
    refine lv_iload_n hx hb dX1_stepsTo_14 rfl (lv_at hl 1 rfl) ?_
    refine kNI (As := [.ref (a0 2), .int p1]) (rest := []) C0 (kt_X9_at l G (a0 2) 16 (A0 2) p1 (by decide)) gi_U_X9_at (host := "IdleCrimes") (index := 33) (List.mem_of_getElem? (i := 20) rfl) gw_6 gw_7 (n := 2) rfl (by decide +kernel) ⟨rfl, rfl, Nat.le_of_ble_eq_true rfl, Nat.le_of_ble_eq_true rfl⟩ hPD hS [2] [0, 1, 3] [0, 1, 3, 2] (wr := pick (wX1 G h0 a0 f0 A0) [0, 1, 3]) (wN := (wX1 G h0 a0 f0 A0)) rfl rfl rfl rfl rfl hl.1 (Nat.le_of_ble_eq_true rfl) dX1_stepsTo_15 (fun H locs hPD hS => ?_)
    refine lv_goto (tgt := 22) hx hb dX1_stepsTo_18 (by decide) ?_
    subst h
    exact eI C0 hPD.1 hPD.2 hS rfl dX1_stepsTo_22
abbrev rmX1_lowestCloser : Room := { frames := 2, cells := 0, slots := 0, locals := 43 }
set_option maxRecDepth 100000 in
set_option maxHeartbeats 4000000 in
theorem ww_f1_lowestCloser_b2  (C0 : Cx cX1_lowestCloser 3 (some .int) RX1 p s m args meth c G DA) {h0 : Nat} {a0 : Nat → Nat} {f0 : Nat → Int32} {A0 : Nat → Nat → Int32} {p1 : Int32}  {k2 : Int32 → Option (Int32)} {res : Int32}  (hk2 : ∀ (l2 : Int32), k2 l2 = some res → ∀ (H : Heap) (locs : List Loc) (ls : Array Slot), WD G DA (wX1 G h0 a0 f0 A0) H → va_S DA s.heap H locs → lv_has ls 3 [(0, .ref h0), (1, .int p1), (2, .int l2)] → W p l e rmX1_lowestCloser s m args below meth c H locs 0 0 (MQ below (QI G DA res (wX1 G h0 a0 f0 A0)) args s 0 0 DA) (F0 m 2 ls [])) : ∀ (l2 : Int32), f1_lowestCloser_b2 f0 A0 p1  k2 l2 = some res → ∀ (H : Heap) (locs : List Loc) (ls : Array Slot), WD G DA (wX1 G h0 a0 f0 A0) H → va_S DA s.heap H locs → lv_has ls 3 [(0, .ref h0), (1, .int p1), (2, .int l2)] → W p l e rmX1_lowestCloser s m args below meth c H locs 0 0 (MQ below (QI G DA res (wX1 G h0 a0 f0 A0)) args s 0 0 DA) (F0 m 2 ls []) := by
  obtain ⟨hx, hb, hml, hown, hts⟩ := C0.1
  have hK := C0.2.2.2.1
  intro l2 h _ _ _ hPD hS hl
  unfold f1_lowestCloser_b2 at h
  refine lv_iload_n hx hb dX1_lowestCloser_2 rfl (lv_at hl 2 rfl) ?_
  refine lv_bipush (v := 16) hx hb dX1_lowestCloser_3 (by decide) ?_
  refine lv_icmp_ge (tgt := 46) hx hb dX1_lowestCloser_5 (by decide) (fun cc1 => ?_) (fun cc1 => ?_)
  · have h := (if_pos cc1).symm.trans h
    refine lv_iload_n hx hb dX1_lowestCloser_46 rfl (lv_at hl 1 rfl) ?_
    obtain rfl := Option.some.inj h
    exact eI C0 hPD.1 hPD.2 hS rfl dX1_lowestCloser_47
  · have h := (if_neg cc1).symm.trans h
    refine lv_aload_n hx hb dX1_lowestCloser_8 rfl (lv_at hl 0 rfl) ?_
    refine va_get (D := G.1) (ci := 1) (v := .ref (a0 1)) (C := RX1) (T := TX1) (N := 4) hx hb hts inlX1 hown hK hPD.1 0 rfl rfl 1 (by decide) (hts _ gw_76) (fun _ h9 => h9) rfl dX1_lowestCloser_9 ?_
    refine lv_iload_n hx hb dX1_lowestCloser_12 rfl (lv_at hl 1 rfl) ?_
    refine kNI (As := [.ref (a0 1), .int p1]) (rest := []) C0 (kt_X9_at l G (a0 1) 16 (A0 1) p1 (by decide)) gi_U_X9_at (host := "IdleCrimes") (index := 33) (List.mem_of_getElem? (i := 20) rfl) gw_6 gw_7 (n := 2) rfl (by decide +kernel) ⟨rfl, rfl, Nat.le_of_ble_eq_true rfl, Nat.le_of_ble_eq_true rfl⟩ hPD hS [1] [0, 2, 3] [0, 3, 1, 2] (wr := pick (wX1 G h0 a0 f0 A0) [0, 2, 3]) (wN := (wX1 G h0 a0 f0 A0)) rfl rfl rfl rfl rfl hl.1 (Nat.le_of_ble_eq_true rfl) dX1_lowestCloser_13 (fun H locs hPD hS => ?_)
    refine lv_iload_n hx hb dX1_lowestCloser_16 rfl (lv_at hl 2 rfl) ?_
    refine kNI (As := [.int (f9_at 16 (A0 1) p1), .int l2]) (rest := []) C0 (kt_X9_has l G  (f9_at 16 (A0 1) p1) l2) gi_U_X9_has (host := "IdleCrimes") (index := 29) (List.mem_of_getElem? (i := 9) rfl) gw_6 gw_74 (n := 2) rfl (by decide +kernel) ⟨rfl, rfl, Nat.le_of_ble_eq_true rfl, Nat.le_of_ble_eq_true rfl⟩ hPD hS [] [0, 1, 2, 3] [0, 1, 2, 3] (wr := (wX1 G h0 a0 f0 A0)) (wN := (wX1 G h0 a0 f0 A0)) rfl rfl rfl rfl rfl hl.1 (Nat.le_of_ble_eq_true rfl) dX1_lowestCloser_17 (fun H locs hPD hS => ?_)
    refine lv_if_eq (tgt := 40) hx hb dX1_lowestCloser_20 (by decide) (fun cc1 => ?_) (fun cc1 => ?_)
    · have h := (if_pos cc1).symm.trans h
      refine lv_iinc (v := l2 + 1) (lv' := [(2, .int (l2 + 1)), (0, .ref h0), (1, .int p1)]) hx hb dX1_lowestCloser_40 hl (k := 2) rfl rfl (by decide) rfl (fun ls hl => ?_)
      refine lv_goto (tgt := 2) hx hb dX1_lowestCloser_43 (by decide) ?_
      exact hk2 (l2 + 1) h _ _ _ hPD hS (lv_sub hl [1, 2, 0] rfl)
    · have h := (if_neg cc1).symm.trans h
      refine lv_aload_n hx hb dX1_lowestCloser_23 rfl (lv_at hl 0 rfl) ?_
      refine lv_iload_n hx hb dX1_lowestCloser_24 rfl (lv_at hl 2 rfl) ?_
      refine kVI (As := [.int l2]) (rest := []) C0 (kt_X1_stepsTo l G h0 a0 f0 A0 l2) gi_V_X1_51_X1_stepsTo (n := 1) rfl (by decide +kernel) rfl ⟨rfl, rfl, Nat.le_of_ble_eq_true rfl, Nat.le_of_ble_eq_true rfl⟩ hPD hS 0 1 rfl rfl rfl [0, 1, 2, 3] [] [0, 1, 2, 3] (wr := ([] : va_W)) (wN := (wX1 G h0 a0 f0 A0)) rfl rfl rfl rfl rfl hl.1 (Nat.le_of_ble_eq_true rfl) dX1_lowestCloser_25 (fun H locs hPD hS => ?_)
      refine lv_aload_n hx hb dX1_lowestCloser_28 rfl (lv_at hl 0 rfl) ?_
      refine lv_iload_n hx hb dX1_lowestCloser_29 rfl (lv_at hl 1 rfl) ?_
      refine kVI (As := [.int p1]) (rest := [.int (f1_stepsTo f0 A0 l2)]) C0 (kt_X1_stepsTo l G h0 a0 f0 A0 p1) gi_V_X1_51_X1_stepsTo (n := 1) rfl (by decide +kernel) rfl ⟨rfl, rfl, Nat.le_of_ble_eq_true rfl, Nat.le_of_ble_eq_true rfl⟩ hPD hS 0 1 rfl rfl rfl [0, 1, 2, 3] [] [0, 1, 2, 3] (wr := ([] : va_W)) (wN := (wX1 G h0 a0 f0 A0)) rfl rfl rfl rfl rfl hl.1 (Nat.le_of_ble_eq_true rfl) dX1_lowestCloser_30 (fun H locs hPD hS => ?_)
      refine lv_iconst (v := 1) hx hb dX1_lowestCloser_33 (by decide) ?_
      refine lv_isub hx hb dX1_lowestCloser_34 ?_
      refine lv_icmp_ne (tgt := 40) hx hb dX1_lowestCloser_35 (by decide) (fun cc1 => ?_) (fun cc1 => ?_)
      · have h := (if_neg cc1).symm.trans h
        refine lv_iinc (v := l2 + 1) (lv' := [(2, .int (l2 + 1)), (0, .ref h0), (1, .int p1)]) hx hb dX1_lowestCloser_40 hl (k := 2) rfl rfl (by decide) rfl (fun ls hl => ?_)
        refine lv_goto (tgt := 2) hx hb dX1_lowestCloser_43 (by decide) ?_
        exact hk2 (l2 + 1) h _ _ _ hPD hS (lv_sub hl [1, 2, 0] rfl)
      · have h := (if_pos cc1).symm.trans h
        refine lv_iload_n hx hb dX1_lowestCloser_38 rfl (lv_at hl 2 rfl) ?_
        obtain rfl := Option.some.inj h
        exact eI C0 hPD.1 hPD.2 hS rfl dX1_lowestCloser_39
set_option maxRecDepth 100000 in
set_option maxHeartbeats 4000000 in
theorem ww_f1_lowestCloser_l2  (C0 : Cx cX1_lowestCloser 3 (some .int) RX1 p s m args meth c G DA) {h0 : Nat} {a0 : Nat → Nat} {f0 : Nat → Int32} {A0 : Nat → Nat → Int32} {p1 : Int32}   {res : Int32}  : ∀ (n : Nat) (l2 : Int32), f1_lowestCloser_l2 f0 A0 p1  n l2 = some res → ∀ (H : Heap) (locs : List Loc) (ls : Array Slot), WD G DA (wX1 G h0 a0 f0 A0) H → va_S DA s.heap H locs → lv_has ls 3 [(0, .ref h0), (1, .int p1), (2, .int l2)] → W p l e rmX1_lowestCloser s m args below meth c H locs 0 0 (MQ below (QI G DA res (wX1 G h0 a0 f0 A0)) args s 0 0 DA) (F0 m 2 ls []) := by
  intro n
  induction n with
  | zero => intro l2 h; cases h
  | succ n ih => intro l2 h; exact ww_f1_lowestCloser_b2 C0  ih l2 h
set_option maxRecDepth 100000 in
set_option maxHeartbeats 4000000 in
theorem kt_X1_lowestCloser (l : Launch) (G : Gp) (h0 : Nat) (a0 : Nat → Nat) (f0 : Nat → Int32) (A0 : Nat → Nat → Int32) (p1 : Int32) : ∀ {r : Int32}, f1_lowestCloser f0 A0 p1 = some r → CtrI l yX1_lowestCloser cX1_lowestCloser 3 (some .int) rmX1_lowestCloser G [.ref h0, .int p1] (wX1 G h0 a0 f0 A0) r (wX1 G h0 a0 f0 A0) := by
  intro res h
  refine ctrI_of (cc := cX1_lowestCloser) (maxL := 3) (ret := (some .int)) (by decide +kernel) rfl (Nat.le_of_ble_eq_true rfl) (fun p e s m below meth c DA C0 hP hD ls hl => ?_)
  have hPD : WD G DA (wX1 G h0 a0 f0 A0) s.heap := ⟨hP, hD⟩
  have hS : va_S DA s.heap s.heap [] := va_S.rf
  have hl : lv_has ls 3 [(0, .ref h0), (1, .int p1)] := hl
  obtain ⟨hx, hb, hml, hown, hts⟩ := C0.1
  have hK := C0.2.2.2.1
  unfold f1_lowestCloser at h
  refine lv_iconst (v := 0) hx hb dX1_lowestCloser_0 (by decide) ?_
  refine lv_istore_n (lv' := [(2, .int 0), (0, .ref h0), (1, .int p1)]) hx hb dX1_lowestCloser_1 rfl hl (by decide) rfl (fun ls hl => ?_)
  exact ww_f1_lowestCloser_l2 C0 NF 0 h _ _ _ hPD hS (lv_sub hl [1, 2, 0] rfl)
abbrev rmX1_stepTowards : Room := { frames := 3, cells := 0, slots := 0, locals := 65 }
set_option maxRecDepth 100000 in
set_option maxHeartbeats 4000000 in
theorem ww_f1_stepTowards_b5  (C0 : Cx cX1_stepTowards 5 (some .int) RX1 p s m args meth c G DA) {h0 : Nat} {a0 : Nat → Nat} {f0 : Nat → Int32} {A0 : Nat → Nat → Int32} {p1 : Int32} {p2 : Int32}  {k5 : Int32 → Int32 → Option (Int32)} {res : Int32}  (hk5 : ∀ (l3 : Int32) (l4 : Int32), k5 l3 l4 = some res → ∀ (H : Heap) (locs : List Loc) (ls : Array Slot), WD G DA (wX1 G h0 a0 f0 A0) H → va_S DA s.heap H locs → lv_has ls 5 [(0, .ref h0), (1, .int p1), (2, .int p2), (3, .int l3), (4, .int l4)] → W p l e rmX1_stepTowards s m args below meth c H locs 0 0 (MQ below (QI G DA res (wX1 G h0 a0 f0 A0)) args s 0 0 DA) (F0 m 5 ls [])) : ∀ (l3 : Int32) (l4 : Int32), f1_stepTowards_b5 f0 A0 p1 p2  k5 l3 l4 = some res → ∀ (H : Heap) (locs : List Loc) (ls : Array Slot), WD G DA (wX1 G h0 a0 f0 A0) H → va_S DA s.heap H locs → lv_has ls 5 [(0, .ref h0), (1, .int p1), (2, .int p2), (3, .int l3), (4, .int l4)] → W p l e rmX1_stepTowards s m args below meth c H locs 0 0 (MQ below (QI G DA res (wX1 G h0 a0 f0 A0)) args s 0 0 DA) (F0 m 5 ls []) := by
  obtain ⟨hx, hb, hml, hown, hts⟩ := C0.1
  have hK := C0.2.2.2.1
  intro l3 l4 h _ _ _ hPD hS hl
  unfold f1_stepTowards_b5 at h
  refine lv_iload hx hb dX1_stepTowards_5 (lv_at hl 4 rfl) ?_
  refine lv_iload_n hx hb dX1_stepTowards_7 rfl (lv_at hl 2 rfl) ?_
  refine lv_icmp_ge (tgt := 30) hx hb dX1_stepTowards_8 (by decide) (fun cc1 => ?_) (fun cc1 => ?_)
  · have h := (if_pos cc1).symm.trans h
    refine lv_iload_n hx hb dX1_stepTowards_30 rfl (lv_at hl 3 rfl) ?_
    obtain rfl := Option.some.inj h
    exact eI C0 hPD.1 hPD.2 hS rfl dX1_stepTowards_31
  · have h := (if_neg cc1).symm.trans h
    refine lv_iload hx hb dX1_stepTowards_11 (lv_at hl 4 rfl) ?_
    refine lv_bipush (v := 16) hx hb dX1_stepTowards_13 (by decide) ?_
    refine lv_icmp_ge (tgt := 30) hx hb dX1_stepTowards_15 (by decide) (fun cc1 => ?_) (fun cc1 => ?_)
    · have h := (if_pos cc1).symm.trans h
      refine lv_iload_n hx hb dX1_stepTowards_30 rfl (lv_at hl 3 rfl) ?_
      obtain rfl := Option.some.inj h
      exact eI C0 hPD.1 hPD.2 hS rfl dX1_stepTowards_31
    · have h := (if_neg cc1).symm.trans h
      refine lv_aload_n hx hb dX1_stepTowards_18 rfl (lv_at hl 0 rfl) ?_
      refine lv_iload_n hx hb dX1_stepTowards_19 rfl (lv_at hl 3 rfl) ?_
      obtain ⟨q_1, hq_1, h⟩ := ob2 h
      refine kVI (As := [.int l3]) (rest := []) C0 (kt_X1_lowestCloser l G h0 a0 f0 A0 l3 hq_1) gi_V_X1_48_X1_lowestCloser (n := 1) rfl (by decide +kernel) rfl ⟨rfl, rfl, Nat.le_of_ble_eq_true rfl, Nat.le_of_ble_eq_true rfl⟩ hPD hS 0 1 rfl rfl rfl [0, 1, 2, 3] [] [0, 1, 2, 3] (wr := ([] : va_W)) (wN := (wX1 G h0 a0 f0 A0)) rfl rfl rfl rfl rfl hl.1 (Nat.le_of_ble_eq_true rfl) dX1_stepTowards_20 (fun H locs hPD hS => ?_)
      refine lv_istore_n (lv' := [(3, .int q_1), (0, .ref h0), (1, .int p1), (2, .int p2), (4, .int l4)]) hx hb dX1_stepTowards_23 rfl hl (by decide) rfl (fun ls hl => ?_)
      refine lv_iinc (v := l4 + 1) (lv' := [(4, .int (l4 + 1)), (3, .int q_1), (0, .ref h0), (1, .int p1), (2, .int p2)]) hx hb dX1_stepTowards_24 hl (k := 4) rfl rfl (by decide) rfl (fun ls hl => ?_)
      refine lv_goto (tgt := 5) hx hb dX1_stepTowards_27 (by decide) ?_
      exact hk5 q_1 (l4 + 1) h _ _ _ hPD hS (lv_sub hl [2, 3, 4, 1, 0] rfl)
set_option maxRecDepth 100000 in
set_option maxHeartbeats 4000000 in
theorem ww_f1_stepTowards_l5  (C0 : Cx cX1_stepTowards 5 (some .int) RX1 p s m args meth c G DA) {h0 : Nat} {a0 : Nat → Nat} {f0 : Nat → Int32} {A0 : Nat → Nat → Int32} {p1 : Int32} {p2 : Int32}   {res : Int32}  : ∀ (n : Nat) (l3 : Int32) (l4 : Int32), f1_stepTowards_l5 f0 A0 p1 p2  n l3 l4 = some res → ∀ (H : Heap) (locs : List Loc) (ls : Array Slot), WD G DA (wX1 G h0 a0 f0 A0) H → va_S DA s.heap H locs → lv_has ls 5 [(0, .ref h0), (1, .int p1), (2, .int p2), (3, .int l3), (4, .int l4)] → W p l e rmX1_stepTowards s m args below meth c H locs 0 0 (MQ below (QI G DA res (wX1 G h0 a0 f0 A0)) args s 0 0 DA) (F0 m 5 ls []) := by
  intro n
  induction n with
  | zero => intro l3 l4 h; cases h
  | succ n ih => intro l3 l4 h; exact ww_f1_stepTowards_b5 C0  ih l3 l4 h
set_option maxRecDepth 100000 in
set_option maxHeartbeats 4000000 in
theorem kt_X1_stepTowards (l : Launch) (G : Gp) (h0 : Nat) (a0 : Nat → Nat) (f0 : Nat → Int32) (A0 : Nat → Nat → Int32) (p1 : Int32) (p2 : Int32) : ∀ {r : Int32}, f1_stepTowards f0 A0 p1 p2 = some r → CtrI l yX1_stepTowards cX1_stepTowards 5 (some .int) rmX1_stepTowards G [.ref h0, .int p1, .int p2] (wX1 G h0 a0 f0 A0) r (wX1 G h0 a0 f0 A0) := by
  intro res h
  refine ctrI_of (cc := cX1_stepTowards) (maxL := 5) (ret := (some .int)) (by decide +kernel) rfl (Nat.le_of_ble_eq_true rfl) (fun p e s m below meth c DA C0 hP hD ls hl => ?_)
  have hPD : WD G DA (wX1 G h0 a0 f0 A0) s.heap := ⟨hP, hD⟩
  have hS : va_S DA s.heap s.heap [] := va_S.rf
  have hl : lv_has ls 5 [(0, .ref h0), (1, .int p1), (2, .int p2)] := hl
  obtain ⟨hx, hb, hml, hown, hts⟩ := C0.1
  have hK := C0.2.2.2.1
  unfold f1_stepTowards at h
  refine lv_iload_n hx hb dX1_stepTowards_0 rfl (lv_at hl 1 rfl) ?_
  refine lv_istore_n (lv' := [(3, .int p1), (0, .ref h0), (1, .int p1), (2, .int p2)]) hx hb dX1_stepTowards_1 rfl hl (by decide) rfl (fun ls hl => ?_)
  refine lv_iconst (v := 0) hx hb dX1_stepTowards_2 (by decide) ?_
  refine lv_istore (lv' := [(4, .int 0), (3, .int p1), (0, .ref h0), (1, .int p1), (2, .int p2)]) hx hb dX1_stepTowards_3 hl (by decide) rfl (fun ls hl => ?_)
  exact ww_f1_stepTowards_l5 C0 NF p1 0 h _ _ _ hPD hS (lv_sub hl [2, 3, 4, 1, 0] rfl)
abbrev rmX1_waysFromCloser : Room := { frames := 2, cells := 0, slots := 0, locals := 43 }
set_option maxRecDepth 100000 in
set_option maxHeartbeats 4000000 in
theorem ww_f1_waysFromCloser_b5  (C0 : Cx cX1_waysFromCloser 5 (some .int) RX1 p s m args meth c G DA) {h0 : Nat} {a0 : Nat → Nat} {f0 : Nat → Int32} {A0 : Nat → Nat → Int32} {p1 : Int32} {p2 : Int32}  {k5 : Int32 → Int32 → Option (Int32)} {res : Int32}  (hk5 : ∀ (l3 : Int32) (l4 : Int32), k5 l3 l4 = some res → ∀ (H : Heap) (locs : List Loc) (ls : Array Slot), WD G DA (wX1 G h0 a0 f0 A0) H → va_S DA s.heap H locs → lv_has ls 5 [(0, .ref h0), (1, .int p1), (2, .int p2), (3, .int l3), (4, .int l4)] → W p l e rmX1_waysFromCloser s m args below meth c H locs 0 0 (MQ below (QI G DA res (wX1 G h0 a0 f0 A0)) args s 0 0 DA) (F0 m 5 ls [])) : ∀ (l3 : Int32) (l4 : Int32), f1_waysFromCloser_b5 f0 A0 p1 p2  k5 l3 l4 = some res → ∀ (H : Heap) (locs : List Loc) (ls : Array Slot), WD G DA (wX1 G h0 a0 f0 A0) H → va_S DA s.heap H locs → lv_has ls 5 [(0, .ref h0), (1, .int p1), (2, .int p2), (3, .int l3), (4, .int l4)] → W p l e rmX1_waysFromCloser s m args below meth c H locs 0 0 (MQ below (QI G DA res (wX1 G h0 a0 f0 A0)) args s 0 0 DA) (F0 m 5 ls []) := by
  obtain ⟨hx, hb, hml, hown, hts⟩ := C0.1
  have hK := C0.2.2.2.1
  intro l3 l4 h _ _ _ hPD hS hl
  unfold f1_waysFromCloser_b5 at h
  refine lv_iload hx hb dX1_waysFromCloser_5 (lv_at hl 4 rfl) ?_
  refine lv_bipush (v := 16) hx hb dX1_waysFromCloser_7 (by decide) ?_
  refine lv_icmp_ge (tgt := 58) hx hb dX1_waysFromCloser_9 (by decide) (fun cc1 => ?_) (fun cc1 => ?_)
  · have h := (if_pos cc1).symm.trans h
    refine lv_iload_n hx hb dX1_waysFromCloser_58 rfl (lv_at hl 3 rfl) ?_
    obtain rfl := Option.some.inj h
    exact eI C0 hPD.1 hPD.2 hS rfl dX1_waysFromCloser_59
  · have h := (if_neg cc1).symm.trans h
    refine lv_aload_n hx hb dX1_waysFromCloser_12 rfl (lv_at hl 0 rfl) ?_
    refine va_get (D := G.1) (ci := 1) (v := .ref (a0 1)) (C := RX1) (T := TX1) (N := 4) hx hb hts inlX1 hown hK hPD.1 0 rfl rfl 1 (by decide) (hts _ gw_76) (fun _ h9 => h9) rfl dX1_waysFromCloser_13 ?_
    refine lv_iload_n hx hb dX1_waysFromCloser_16 rfl (lv_at hl 1 rfl) ?_
    refine kNI (As := [.ref (a0 1), .int p1]) (rest := []) C0 (kt_X9_at l G (a0 1) 16 (A0 1) p1 (by decide)) gi_U_X9_at (host := "IdleCrimes") (index := 33) (List.mem_of_getElem? (i := 20) rfl) gw_6 gw_7 (n := 2) rfl (by decide +kernel) ⟨rfl, rfl, Nat.le_of_ble_eq_true rfl, Nat.le_of_ble_eq_true rfl⟩ hPD hS [1] [0, 2, 3] [0, 3, 1, 2] (wr := pick (wX1 G h0 a0 f0 A0) [0, 2, 3]) (wN := (wX1 G h0 a0 f0 A0)) rfl rfl rfl rfl rfl hl.1 (Nat.le_of_ble_eq_true rfl) dX1_waysFromCloser_17 (fun H locs hPD hS => ?_)
    refine lv_iload hx hb dX1_waysFromCloser_20 (lv_at hl 4 rfl) ?_
    refine kNI (As := [.int (f9_at 16 (A0 1) p1), .int l4]) (rest := []) C0 (kt_X9_has l G  (f9_at 16 (A0 1) p1) l4) gi_U_X9_has (host := "IdleCrimes") (index := 29) (List.mem_of_getElem? (i := 9) rfl) gw_6 gw_74 (n := 2) rfl (by decide +kernel) ⟨rfl, rfl, Nat.le_of_ble_eq_true rfl, Nat.le_of_ble_eq_true rfl⟩ hPD hS [] [0, 1, 2, 3] [0, 1, 2, 3] (wr := (wX1 G h0 a0 f0 A0)) (wN := (wX1 G h0 a0 f0 A0)) rfl rfl rfl rfl rfl hl.1 (Nat.le_of_ble_eq_true rfl) dX1_waysFromCloser_22 (fun H locs hPD hS => ?_)
    refine lv_if_eq (tgt := 52) hx hb dX1_waysFromCloser_25 (by decide) (fun cc1 => ?_) (fun cc1 => ?_)
    · have h := (if_pos cc1).symm.trans h
      refine lv_iinc (v := l4 + 1) (lv' := [(4, .int (l4 + 1)), (0, .ref h0), (1, .int p1), (2, .int p2), (3, .int l3)]) hx hb dX1_waysFromCloser_52 hl (k := 4) rfl rfl (by decide) rfl (fun ls hl => ?_)
      refine lv_goto (tgt := 5) hx hb dX1_waysFromCloser_55 (by decide) ?_
      exact hk5 l3 (l4 + 1) h _ _ _ hPD hS (lv_sub hl [1, 2, 3, 4, 0] rfl)
    · have h := (if_neg cc1).symm.trans h
      refine lv_aload_n hx hb dX1_waysFromCloser_28 rfl (lv_at hl 0 rfl) ?_
      refine lv_iload hx hb dX1_waysFromCloser_29 (lv_at hl 4 rfl) ?_
      refine kVI (As := [.int l4]) (rest := []) C0 (kt_X1_stepsTo l G h0 a0 f0 A0 l4) gi_V_X1_51_X1_stepsTo (n := 1) rfl (by decide +kernel) rfl ⟨rfl, rfl, Nat.le_of_ble_eq_true rfl, Nat.le_of_ble_eq_true rfl⟩ hPD hS 0 1 rfl rfl rfl [0, 1, 2, 3] [] [0, 1, 2, 3] (wr := ([] : va_W)) (wN := (wX1 G h0 a0 f0 A0)) rfl rfl rfl rfl rfl hl.1 (Nat.le_of_ble_eq_true rfl) dX1_waysFromCloser_31 (fun H locs hPD hS => ?_)
      refine lv_iload_n hx hb dX1_waysFromCloser_34 rfl (lv_at hl 2 rfl) ?_
      refine lv_iconst (v := 1) hx hb dX1_waysFromCloser_35 (by decide) ?_
      refine lv_isub hx hb dX1_waysFromCloser_36 ?_
      refine lv_icmp_ne (tgt := 52) hx hb dX1_waysFromCloser_37 (by decide) (fun cc1 => ?_) (fun cc1 => ?_)
      · have h := (if_neg cc1).symm.trans h
        refine lv_iinc (v := l4 + 1) (lv' := [(4, .int (l4 + 1)), (0, .ref h0), (1, .int p1), (2, .int p2), (3, .int l3)]) hx hb dX1_waysFromCloser_52 hl (k := 4) rfl rfl (by decide) rfl (fun ls hl => ?_)
        refine lv_goto (tgt := 5) hx hb dX1_waysFromCloser_55 (by decide) ?_
        exact hk5 l3 (l4 + 1) h _ _ _ hPD hS (lv_sub hl [1, 2, 3, 4, 0] rfl)
      · have h := (if_pos cc1).symm.trans h
        refine lv_iload_n hx hb dX1_waysFromCloser_40 rfl (lv_at hl 3 rfl) ?_
        refine lv_aload_n hx hb dX1_waysFromCloser_41 rfl (lv_at hl 0 rfl) ?_
        refine va_get (D := G.1) (ci := 1) (v := .ref (a0 3)) (C := RX1) (T := TX1) (N := 4) hx hb hts inlX1 hown hK hPD.1 0 rfl rfl 3 (by decide) (hts _ gw_95) (fun _ h9 => h9) rfl dX1_waysFromCloser_42 ?_
        refine lv_iload hx hb dX1_waysFromCloser_45 (lv_at hl 4 rfl) ?_
        refine kNI (As := [.ref (a0 3), .int l4]) (rest := [.int l3]) C0 (kt_X9_at l G (a0 3) 16 (A0 3) l4 (by decide)) gi_U_X9_at (host := "IdleCrimes") (index := 33) (List.mem_of_getElem? (i := 20) rfl) gw_6 gw_7 (n := 2) rfl (by decide +kernel) ⟨rfl, rfl, Nat.le_of_ble_eq_true rfl, Nat.le_of_ble_eq_true rfl⟩ hPD hS [3] [0, 1, 2] [0, 1, 2, 3] (wr := pick (wX1 G h0 a0 f0 A0) [0, 1, 2]) (wN := (wX1 G h0 a0 f0 A0)) rfl rfl rfl rfl rfl hl.1 (Nat.le_of_ble_eq_true rfl) dX1_waysFromCloser_47 (fun H locs hPD hS => ?_)
        refine lv_iadd hx hb dX1_waysFromCloser_50 ?_
        refine lv_istore_n (lv' := [(3, .int (l3 + (f9_at 16 (A0 3) l4))), (0, .ref h0), (1, .int p1), (2, .int p2), (4, .int l4)]) hx hb dX1_waysFromCloser_51 rfl hl (by decide) rfl (fun ls hl => ?_)
        refine lv_iinc (v := l4 + 1) (lv' := [(4, .int (l4 + 1)), (3, .int (l3 + (f9_at 16 (A0 3) l4))), (0, .ref h0), (1, .int p1), (2, .int p2)]) hx hb dX1_waysFromCloser_52 hl (k := 4) rfl rfl (by decide) rfl (fun ls hl => ?_)
        refine lv_goto (tgt := 5) hx hb dX1_waysFromCloser_55 (by decide) ?_
        exact hk5 (l3 + (f9_at 16 (A0 3) l4)) (l4 + 1) h _ _ _ hPD hS (lv_sub hl [2, 3, 4, 1, 0] rfl)
set_option maxRecDepth 100000 in
set_option maxHeartbeats 4000000 in
theorem ww_f1_waysFromCloser_l5  (C0 : Cx cX1_waysFromCloser 5 (some .int) RX1 p s m args meth c G DA) {h0 : Nat} {a0 : Nat → Nat} {f0 : Nat → Int32} {A0 : Nat → Nat → Int32} {p1 : Int32} {p2 : Int32}   {res : Int32}  : ∀ (n : Nat) (l3 : Int32) (l4 : Int32), f1_waysFromCloser_l5 f0 A0 p1 p2  n l3 l4 = some res → ∀ (H : Heap) (locs : List Loc) (ls : Array Slot), WD G DA (wX1 G h0 a0 f0 A0) H → va_S DA s.heap H locs → lv_has ls 5 [(0, .ref h0), (1, .int p1), (2, .int p2), (3, .int l3), (4, .int l4)] → W p l e rmX1_waysFromCloser s m args below meth c H locs 0 0 (MQ below (QI G DA res (wX1 G h0 a0 f0 A0)) args s 0 0 DA) (F0 m 5 ls []) := by
  intro n
  induction n with
  | zero => intro l3 l4 h; cases h
  | succ n ih => intro l3 l4 h; exact ww_f1_waysFromCloser_b5 C0  ih l3 l4 h
set_option maxRecDepth 100000 in
set_option maxHeartbeats 4000000 in
theorem kt_X1_waysFromCloser (l : Launch) (G : Gp) (h0 : Nat) (a0 : Nat → Nat) (f0 : Nat → Int32) (A0 : Nat → Nat → Int32) (p1 : Int32) (p2 : Int32) : ∀ {r : Int32}, f1_waysFromCloser f0 A0 p1 p2 = some r → CtrI l yX1_waysFromCloser cX1_waysFromCloser 5 (some .int) rmX1_waysFromCloser G [.ref h0, .int p1, .int p2] (wX1 G h0 a0 f0 A0) r (wX1 G h0 a0 f0 A0) := by
  intro res h
  refine ctrI_of (cc := cX1_waysFromCloser) (maxL := 5) (ret := (some .int)) (by decide +kernel) rfl (Nat.le_of_ble_eq_true rfl) (fun p e s m below meth c DA C0 hP hD ls hl => ?_)
  have hPD : WD G DA (wX1 G h0 a0 f0 A0) s.heap := ⟨hP, hD⟩
  have hS : va_S DA s.heap s.heap [] := va_S.rf
  have hl : lv_has ls 5 [(0, .ref h0), (1, .int p1), (2, .int p2)] := hl
  obtain ⟨hx, hb, hml, hown, hts⟩ := C0.1
  have hK := C0.2.2.2.1
  unfold f1_waysFromCloser at h
  refine lv_iconst (v := 0) hx hb dX1_waysFromCloser_0 (by decide) ?_
  refine lv_istore_n (lv' := [(3, .int 0), (0, .ref h0), (1, .int p1), (2, .int p2)]) hx hb dX1_waysFromCloser_1 rfl hl (by decide) rfl (fun ls hl => ?_)
  refine lv_iconst (v := 0) hx hb dX1_waysFromCloser_2 (by decide) ?_
  refine lv_istore (lv' := [(4, .int 0), (3, .int 0), (0, .ref h0), (1, .int p1), (2, .int p2)]) hx hb dX1_waysFromCloser_3 hl (by decide) rfl (fun ls hl => ?_)
  exact ww_f1_waysFromCloser_l5 C0 NF 0 0 h _ _ _ hPD hS (lv_sub hl [2, 3, 4, 1, 0] rfl)
abbrev rmX1_shortestWays : Room := { frames := 4, cells := 0, slots := 0, locals := 91 }
set_option maxRecDepth 100000 in
set_option maxHeartbeats 4000000 in
theorem ww_f1_shortestWays_b49  (C0 : Cx cX1_shortestWays 5 (some .int) RX1 p s m args meth c G DA) {h0 : Nat} {a0 : Nat → Nat} {f0 : Nat → Int32} {p1 : Int32} {p2 : Int32}  {k40 : (Nat → Nat → Int32) → Int32 → Option (Int32 × (Nat → Nat → Int32))} {k49 : (Nat → Nat → Int32) → Int32 → Int32 → Option (Int32 × (Nat → Nat → Int32))} {res : Int32 × (Nat → Nat → Int32)} (hk40 : ∀ (A0 : Nat → Nat → Int32) (l3 : Int32), k40 A0 l3 = some res → ∀ (H : Heap) (locs : List Loc) (ls : Array Slot), WD G DA (wX1 G h0 a0 f0 A0) H → va_S DA s.heap H locs → lv_has ls 5 [(0, .ref h0), (1, .int p1), (2, .int p2), (3, .int l3)] → W p l e rmX1_shortestWays s m args below meth c H locs 0 0 (MQ below (QI G DA res.1 (wX1 G h0 a0 f0 res.2)) args s 0 0 DA) (F0 m 40 ls [])) (hk49 : ∀ (A0 : Nat → Nat → Int32) (l3 : Int32) (l4 : Int32), k49 A0 l3 l4 = some res → ∀ (H : Heap) (locs : List Loc) (ls : Array Slot), WD G DA (wX1 G h0 a0 f0 A0) H → va_S DA s.heap H locs → lv_has ls 5 [(0, .ref h0), (1, .int p1), (2, .int p2), (3, .int l3), (4, .int l4)] → W p l e rmX1_shortestWays s m args below meth c H locs 0 0 (MQ below (QI G DA res.1 (wX1 G h0 a0 f0 res.2)) args s 0 0 DA) (F0 m 49 ls [])) : ∀ (A0 : Nat → Nat → Int32) (l3 : Int32) (l4 : Int32), f1_shortestWays_b49 f0 p1 p2 k40 k49 A0 l3 l4 = some res → ∀ (H : Heap) (locs : List Loc) (ls : Array Slot), WD G DA (wX1 G h0 a0 f0 A0) H → va_S DA s.heap H locs → lv_has ls 5 [(0, .ref h0), (1, .int p1), (2, .int p2), (3, .int l3), (4, .int l4)] → W p l e rmX1_shortestWays s m args below meth c H locs 0 0 (MQ below (QI G DA res.1 (wX1 G h0 a0 f0 res.2)) args s 0 0 DA) (F0 m 49 ls []) := by
  obtain ⟨hx, hb, hml, hown, hts⟩ := C0.1
  have hK := C0.2.2.2.1
  intro A0 l3 l4 h _ _ _ hPD hS hl
  unfold f1_shortestWays_b49 at h
  refine lv_iload hx hb dX1_shortestWays_49 (lv_at hl 4 rfl) ?_
  refine lv_bipush (v := 16) hx hb dX1_shortestWays_51 (by decide) ?_
  refine lv_icmp_ge (tgt := 88) hx hb dX1_shortestWays_53 (by decide) (fun cc1 => ?_) (fun cc1 => ?_)
  · have h := (if_pos cc1).symm.trans h
    refine lv_iinc (v := l3 + 1) (lv' := [(3, .int (l3 + 1)), (0, .ref h0), (1, .int p1), (2, .int p2), (4, .int l4)]) hx hb dX1_shortestWays_88 hl (k := 3) rfl rfl (by decide) rfl (fun ls hl => ?_)
    refine lv_goto (tgt := 40) hx hb dX1_shortestWays_91 (by decide) ?_
    exact hk40 A0 (l3 + 1) h _ _ _ hPD hS (lv_sub hl [1, 2, 3, 0] rfl)
  · have h := (if_neg cc1).symm.trans h
    refine lv_aload_n hx hb dX1_shortestWays_56 rfl (lv_at hl 0 rfl) ?_
    refine lv_iload hx hb dX1_shortestWays_57 (lv_at hl 4 rfl) ?_
    refine kVI (As := [.int l4]) (rest := []) C0 (kt_X1_stepsTo l G h0 a0 f0 A0 l4) gi_V_X1_51_X1_stepsTo (n := 1) rfl (by decide +kernel) rfl ⟨rfl, rfl, Nat.le_of_ble_eq_true rfl, Nat.le_of_ble_eq_true rfl⟩ hPD hS 0 1 rfl rfl rfl [0, 1, 2, 3] [] [0, 1, 2, 3] (wr := ([] : va_W)) (wN := (wX1 G h0 a0 f0 A0)) rfl rfl rfl rfl rfl hl.1 (Nat.le_of_ble_eq_true rfl) dX1_shortestWays_59 (fun H locs hPD hS => ?_)
    refine lv_iload_n hx hb dX1_shortestWays_62 rfl (lv_at hl 3 rfl) ?_
    refine lv_icmp_ne (tgt := 82) hx hb dX1_shortestWays_63 (by decide) (fun cc1 => ?_) (fun cc1 => ?_)
    · have h := (if_neg cc1).symm.trans h
      refine lv_iinc (v := l4 + 1) (lv' := [(4, .int (l4 + 1)), (0, .ref h0), (1, .int p1), (2, .int p2), (3, .int l3)]) hx hb dX1_shortestWays_82 hl (k := 4) rfl rfl (by decide) rfl (fun ls hl => ?_)
      refine lv_goto (tgt := 49) hx hb dX1_shortestWays_85 (by decide) ?_
      exact hk49 A0 l3 (l4 + 1) h _ _ _ hPD hS (lv_sub hl [1, 2, 3, 4, 0] rfl)
    · have h := (if_pos cc1).symm.trans h
      refine lv_aload_n hx hb dX1_shortestWays_66 rfl (lv_at hl 0 rfl) ?_
      refine va_get (D := G.1) (ci := 1) (v := .ref (a0 3)) (C := RX1) (T := TX1) (N := 4) hx hb hts inlX1 hown hK hPD.1 0 rfl rfl 3 (by decide) (hts _ gw_95) (fun _ h9 => h9) rfl dX1_shortestWays_67 ?_
      refine lv_iload hx hb dX1_shortestWays_70 (lv_at hl 4 rfl) ?_
      refine lv_aload_n hx hb dX1_shortestWays_72 rfl (lv_at hl 0 rfl) ?_
      refine lv_iload hx hb dX1_shortestWays_73 (lv_at hl 4 rfl) ?_
      refine lv_iload_n hx hb dX1_shortestWays_75 rfl (lv_at hl 3 rfl) ?_
      obtain ⟨q_2, hq_2, h⟩ := ob2 h
      refine kVI (As := [.int l4, .int l3]) (rest := [.int l4, .ref (a0 3)]) C0 (kt_X1_waysFromCloser l G h0 a0 f0 A0 l4 l3 hq_2) gi_V_X1_58_X1_waysFromCloser (n := 2) rfl (by decide +kernel) rfl ⟨rfl, rfl, Nat.le_of_ble_eq_true rfl, Nat.le_of_ble_eq_true rfl⟩ hPD hS 0 1 rfl rfl rfl [0, 1, 2, 3] [] [0, 1, 2, 3] (wr := ([] : va_W)) (wN := (wX1 G h0 a0 f0 A0)) rfl rfl rfl rfl rfl hl.1 (Nat.le_of_ble_eq_true rfl) dX1_shortestWays_76 (fun H locs hPD hS => ?_)
      obtain ⟨z_3, ez_3, h⟩ := lvl h
      have kc := kt_X9_put l G (a0 3) 16 (A0 3) l4 q_2 (by decide)
      rw [← ez_3] at kc
      clear ez_3
      refine kNV (As := [.ref (a0 3), .int l4, .int q_2]) (rest := []) C0 (kc) gi_U_X9_put (host := "IdleCrimes") (index := 37) (List.mem_of_getElem? (i := 21) rfl) gw_6 gw_19 (n := 3) rfl (by decide +kernel) ⟨rfl, rfl, Nat.le_of_ble_eq_true rfl, Nat.le_of_ble_eq_true rfl⟩ hPD hS [3] [0, 1, 2] [0, 1, 2, 3] (wr := pick (wX1 G h0 a0 f0 A0) [0, 1, 2]) (wN := (wX1 G h0 a0 f0 (updA A0 3 z_3))) rfl rfl rfl rfl rfl hl.1 (Nat.le_of_ble_eq_true rfl) dX1_shortestWays_79 (fun H locs hPD hS => ?_)
      obtain ⟨A0_4, eA0_4, h⟩ := lvl h
      have hPD : WD G DA (wX1 G h0 a0 f0 A0_4) H := by rw [eA0_4]; exact hPD
      clear eA0_4
      refine lv_iinc (v := l4 + 1) (lv' := [(4, .int (l4 + 1)), (0, .ref h0), (1, .int p1), (2, .int p2), (3, .int l3)]) hx hb dX1_shortestWays_82 hl (k := 4) rfl rfl (by decide) rfl (fun ls hl => ?_)
      refine lv_goto (tgt := 49) hx hb dX1_shortestWays_85 (by decide) ?_
      exact hk49 A0_4 l3 (l4 + 1) h _ _ _ hPD hS (lv_sub hl [1, 2, 3, 4, 0] rfl)
set_option maxRecDepth 100000 in
set_option maxHeartbeats 4000000 in
theorem ww_f1_shortestWays_l49  (C0 : Cx cX1_shortestWays 5 (some .int) RX1 p s m args meth c G DA) {h0 : Nat} {a0 : Nat → Nat} {f0 : Nat → Int32} {p1 : Int32} {p2 : Int32}  {k40 : (Nat → Nat → Int32) → Int32 → Option (Int32 × (Nat → Nat → Int32))} {res : Int32 × (Nat → Nat → Int32)} (hk40 : ∀ (A0 : Nat → Nat → Int32) (l3 : Int32), k40 A0 l3 = some res → ∀ (H : Heap) (locs : List Loc) (ls : Array Slot), WD G DA (wX1 G h0 a0 f0 A0) H → va_S DA s.heap H locs → lv_has ls 5 [(0, .ref h0), (1, .int p1), (2, .int p2), (3, .int l3)] → W p l e rmX1_shortestWays s m args below meth c H locs 0 0 (MQ below (QI G DA res.1 (wX1 G h0 a0 f0 res.2)) args s 0 0 DA) (F0 m 40 ls [])) : ∀ (n : Nat) (A0 : Nat → Nat → Int32) (l3 : Int32) (l4 : Int32), f1_shortestWays_l49 f0 p1 p2 k40 n A0 l3 l4 = some res → ∀ (H : Heap) (locs : List Loc) (ls : Array Slot), WD G DA (wX1 G h0 a0 f0 A0) H → va_S DA s.heap H locs → lv_has ls 5 [(0, .ref h0), (1, .int p1), (2, .int p2), (3, .int l3), (4, .int l4)] → W p l e rmX1_shortestWays s m args below meth c H locs 0 0 (MQ below (QI G DA res.1 (wX1 G h0 a0 f0 res.2)) args s 0 0 DA) (F0 m 49 ls []) := by
  intro n
  induction n with
  | zero => intro A0 l3 l4 h; cases h
  | succ n ih => intro A0 l3 l4 h; exact ww_f1_shortestWays_b49 C0 hk40 ih A0 l3 l4 h
set_option maxRecDepth 100000 in
set_option maxHeartbeats 4000000 in
theorem ww_f1_shortestWays_b40  (C0 : Cx cX1_shortestWays 5 (some .int) RX1 p s m args meth c G DA) {h0 : Nat} {a0 : Nat → Nat} {f0 : Nat → Int32} {p1 : Int32} {p2 : Int32}  {k40 : (Nat → Nat → Int32) → Int32 → Option (Int32 × (Nat → Nat → Int32))} {res : Int32 × (Nat → Nat → Int32)}  (hk40 : ∀ (A0 : Nat → Nat → Int32) (l3 : Int32), k40 A0 l3 = some res → ∀ (H : Heap) (locs : List Loc) (ls : Array Slot), WD G DA (wX1 G h0 a0 f0 A0) H → va_S DA s.heap H locs → lv_has ls 5 [(0, .ref h0), (1, .int p1), (2, .int p2), (3, .int l3)] → W p l e rmX1_shortestWays s m args below meth c H locs 0 0 (MQ below (QI G DA res.1 (wX1 G h0 a0 f0 res.2)) args s 0 0 DA) (F0 m 40 ls [])) : ∀ (A0 : Nat → Nat → Int32) (l3 : Int32), f1_shortestWays_b40 f0 p1 p2  k40 A0 l3 = some res → ∀ (H : Heap) (locs : List Loc) (ls : Array Slot), WD G DA (wX1 G h0 a0 f0 A0) H → va_S DA s.heap H locs → lv_has ls 5 [(0, .ref h0), (1, .int p1), (2, .int p2), (3, .int l3)] → W p l e rmX1_shortestWays s m args below meth c H locs 0 0 (MQ below (QI G DA res.1 (wX1 G h0 a0 f0 res.2)) args s 0 0 DA) (F0 m 40 ls []) := by
  obtain ⟨hx, hb, hml, hown, hts⟩ := C0.1
  have hK := C0.2.2.2.1
  intro A0 l3 h _ _ _ hPD hS hl
  unfold f1_shortestWays_b40 at h
  refine lv_iload_n hx hb dX1_shortestWays_40 rfl (lv_at hl 3 rfl) ?_
  refine lv_bipush (v := 16) hx hb dX1_shortestWays_41 (by decide) ?_
  refine lv_icmp_ge (tgt := 94) hx hb dX1_shortestWays_43 (by decide) (fun cc1 => ?_) (fun cc1 => ?_)
  · have h := (if_pos cc1).symm.trans h
    refine lv_aload_n hx hb dX1_shortestWays_94 rfl (lv_at hl 0 rfl) ?_
    refine va_get (D := G.1) (ci := 1) (v := .ref (a0 3)) (C := RX1) (T := TX1) (N := 4) hx hb hts inlX1 hown hK hPD.1 0 rfl rfl 3 (by decide) (hts _ gw_95) (fun _ h9 => h9) rfl dX1_shortestWays_95 ?_
    refine lv_iload_n hx hb dX1_shortestWays_98 rfl (lv_at hl 2 rfl) ?_
    refine kNI (As := [.ref (a0 3), .int p2]) (rest := []) C0 (kt_X9_at l G (a0 3) 16 (A0 3) p2 (by decide)) gi_U_X9_at (host := "IdleCrimes") (index := 33) (List.mem_of_getElem? (i := 20) rfl) gw_6 gw_7 (n := 2) rfl (by decide +kernel) ⟨rfl, rfl, Nat.le_of_ble_eq_true rfl, Nat.le_of_ble_eq_true rfl⟩ hPD hS [3] [0, 1, 2] [0, 1, 2, 3] (wr := pick (wX1 G h0 a0 f0 A0) [0, 1, 2]) (wN := (wX1 G h0 a0 f0 A0)) rfl rfl rfl rfl rfl hl.1 (Nat.le_of_ble_eq_true rfl) dX1_shortestWays_99 (fun H locs hPD hS => ?_)
    obtain rfl := Option.some.inj h
    exact eI C0 hPD.1 hPD.2 hS rfl dX1_shortestWays_102
  · have h := (if_neg cc1).symm.trans h
    refine lv_iconst (v := 0) hx hb dX1_shortestWays_46 (by decide) ?_
    refine lv_istore (lv' := [(4, .int 0), (0, .ref h0), (1, .int p1), (2, .int p2), (3, .int l3)]) hx hb dX1_shortestWays_47 hl (by decide) rfl (fun ls hl => ?_)
    exact ww_f1_shortestWays_l49 C0 hk40 NF A0 l3 0 h _ _ _ hPD hS (lv_sub hl [1, 2, 3, 4, 0] rfl)
set_option maxRecDepth 100000 in
set_option maxHeartbeats 4000000 in
theorem ww_f1_shortestWays_l40  (C0 : Cx cX1_shortestWays 5 (some .int) RX1 p s m args meth c G DA) {h0 : Nat} {a0 : Nat → Nat} {f0 : Nat → Int32} {p1 : Int32} {p2 : Int32}   {res : Int32 × (Nat → Nat → Int32)}  : ∀ (n : Nat) (A0 : Nat → Nat → Int32) (l3 : Int32), f1_shortestWays_l40 f0 p1 p2  n A0 l3 = some res → ∀ (H : Heap) (locs : List Loc) (ls : Array Slot), WD G DA (wX1 G h0 a0 f0 A0) H → va_S DA s.heap H locs → lv_has ls 5 [(0, .ref h0), (1, .int p1), (2, .int p2), (3, .int l3)] → W p l e rmX1_shortestWays s m args below meth c H locs 0 0 (MQ below (QI G DA res.1 (wX1 G h0 a0 f0 res.2)) args s 0 0 DA) (F0 m 40 ls []) := by
  intro n
  induction n with
  | zero => intro A0 l3 h; cases h
  | succ n ih => intro A0 l3 h; exact ww_f1_shortestWays_b40 C0  ih A0 l3 h
set_option maxRecDepth 100000 in
set_option maxHeartbeats 4000000 in
theorem ww_f1_shortestWays_b7  (C0 : Cx cX1_shortestWays 5 (some .int) RX1 p s m args meth c G DA) {h0 : Nat} {a0 : Nat → Nat} {f0 : Nat → Int32} {p1 : Int32} {p2 : Int32}  {k7 : (Nat → Nat → Int32) → Int32 → Option (Int32 × (Nat → Nat → Int32))} {res : Int32 × (Nat → Nat → Int32)}  (hk7 : ∀ (A0 : Nat → Nat → Int32) (l3 : Int32), k7 A0 l3 = some res → ∀ (H : Heap) (locs : List Loc) (ls : Array Slot), WD G DA (wX1 G h0 a0 f0 A0) H → va_S DA s.heap H locs → lv_has ls 5 [(0, .ref h0), (1, .int p1), (2, .int p2), (3, .int l3)] → W p l e rmX1_shortestWays s m args below meth c H locs 0 0 (MQ below (QI G DA res.1 (wX1 G h0 a0 f0 res.2)) args s 0 0 DA) (F0 m 7 ls [])) : ∀ (A0 : Nat → Nat → Int32) (l3 : Int32), f1_shortestWays_b7 f0 p1 p2  k7 A0 l3 = some res → ∀ (H : Heap) (locs : List Loc) (ls : Array Slot), WD G DA (wX1 G h0 a0 f0 A0) H → va_S DA s.heap H locs → lv_has ls 5 [(0, .ref h0), (1, .int p1), (2, .int p2), (3, .int l3)] → W p l e rmX1_shortestWays s m args below meth c H locs 0 0 (MQ below (QI G DA res.1 (wX1 G h0 a0 f0 res.2)) args s 0 0 DA) (F0 m 7 ls []) := by
  obtain ⟨hx, hb, hml, hown, hts⟩ := C0.1
  have hK := C0.2.2.2.1
  intro A0 l3 h _ _ _ hPD hS hl
  unfold f1_shortestWays_b7 at h
  refine lv_iload_n hx hb dX1_shortestWays_7 rfl (lv_at hl 3 rfl) ?_
  refine lv_aload_n hx hb dX1_shortestWays_8 rfl (lv_at hl 0 rfl) ?_
  refine va_get (D := G.1) (ci := 1) (v := .ref (a0 3)) (C := RX1) (T := TX1) (N := 4) hx hb hts inlX1 hown hK hPD.1 0 rfl rfl 3 (by decide) (hts _ gw_95) (fun _ h9 => h9) rfl dX1_shortestWays_9 ?_
  refine va_alen (v := 16) hx hb hK hPD.1 3 1 rfl rfl rfl dX1_shortestWays_12 ?_
  refine lv_icmp_ge (tgt := 38) hx hb dX1_shortestWays_13 (by decide) (fun cc1 => ?_) (fun cc1 => ?_)
  · have h := (if_pos cc1).symm.trans h
    refine lv_iconst (v := 1) hx hb dX1_shortestWays_38 (by decide) ?_
    refine lv_istore_n (lv' := [(3, .int 1), (0, .ref h0), (1, .int p1), (2, .int p2)]) hx hb dX1_shortestWays_39 rfl hl (by decide) rfl (fun ls hl => ?_)
    exact ww_f1_shortestWays_l40 C0 NF A0 1 h _ _ _ hPD hS (lv_sub hl [1, 2, 3, 0] rfl)
  · have h := (if_neg cc1).symm.trans h
    refine lv_aload_n hx hb dX1_shortestWays_16 rfl (lv_at hl 0 rfl) ?_
    refine va_get (D := G.1) (ci := 1) (v := .ref (a0 3)) (C := RX1) (T := TX1) (N := 4) hx hb hts inlX1 hown hK hPD.1 0 rfl rfl 3 (by decide) (hts _ gw_95) (fun _ h9 => h9) rfl dX1_shortestWays_17 ?_
    refine lv_iload_n hx hb dX1_shortestWays_20 rfl (lv_at hl 3 rfl) ?_
    refine lv_iload_n hx hb dX1_shortestWays_21 rfl (lv_at hl 3 rfl) ?_
    refine lv_iload_n hx hb dX1_shortestWays_22 rfl (lv_at hl 1 rfl) ?_
    refine lv_icmp_ne (tgt := 30) hx hb dX1_shortestWays_23 (by decide) (fun cc1 => ?_) (fun cc1 => ?_)
    · have h := (if_neg cc1).symm.trans h
      refine lv_iconst (v := 0) hx hb dX1_shortestWays_30 (by decide) ?_
      obtain ⟨hi_5, h⟩ := ob h
      refine va_iast hx hb hK hPD.1 hPD.2 hS 3 1 rfl rfl hi_5 dX1_shortestWays_31 (fun H locs hP hD hS => ?_)
      obtain ⟨A0_6, eA0_6, h⟩ := lvl h
      have hPD : WD G DA (wX1 G h0 a0 f0 A0_6) H := by rw [eA0_6]; exact ⟨hP, hD⟩
      clear eA0_6 hP hD
      refine lv_iinc (v := l3 + 1) (lv' := [(3, .int (l3 + 1)), (0, .ref h0), (1, .int p1), (2, .int p2)]) hx hb dX1_shortestWays_32 hl (k := 3) rfl rfl (by decide) rfl (fun ls hl => ?_)
      refine lv_goto (tgt := 7) hx hb dX1_shortestWays_35 (by decide) ?_
      exact hk7 A0_6 (l3 + 1) h _ _ _ hPD hS (lv_sub hl [1, 2, 3, 0] rfl)
    · have h := (if_pos cc1).symm.trans h
      refine lv_iconst (v := 1) hx hb dX1_shortestWays_26 (by decide) ?_
      refine lv_goto (tgt := 31) hx hb dX1_shortestWays_27 (by decide) ?_
      obtain ⟨hi_7, h⟩ := ob h
      refine va_iast hx hb hK hPD.1 hPD.2 hS 3 1 rfl rfl hi_7 dX1_shortestWays_31 (fun H locs hP hD hS => ?_)
      obtain ⟨A0_8, eA0_8, h⟩ := lvl h
      have hPD : WD G DA (wX1 G h0 a0 f0 A0_8) H := by rw [eA0_8]; exact ⟨hP, hD⟩
      clear eA0_8 hP hD
      refine lv_iinc (v := l3 + 1) (lv' := [(3, .int (l3 + 1)), (0, .ref h0), (1, .int p1), (2, .int p2)]) hx hb dX1_shortestWays_32 hl (k := 3) rfl rfl (by decide) rfl (fun ls hl => ?_)
      refine lv_goto (tgt := 7) hx hb dX1_shortestWays_35 (by decide) ?_
      exact hk7 A0_8 (l3 + 1) h _ _ _ hPD hS (lv_sub hl [1, 2, 3, 0] rfl)
set_option maxRecDepth 100000 in
set_option maxHeartbeats 4000000 in
theorem ww_f1_shortestWays_l7  (C0 : Cx cX1_shortestWays 5 (some .int) RX1 p s m args meth c G DA) {h0 : Nat} {a0 : Nat → Nat} {f0 : Nat → Int32} {p1 : Int32} {p2 : Int32}   {res : Int32 × (Nat → Nat → Int32)}  : ∀ (n : Nat) (A0 : Nat → Nat → Int32) (l3 : Int32), f1_shortestWays_l7 f0 p1 p2  n A0 l3 = some res → ∀ (H : Heap) (locs : List Loc) (ls : Array Slot), WD G DA (wX1 G h0 a0 f0 A0) H → va_S DA s.heap H locs → lv_has ls 5 [(0, .ref h0), (1, .int p1), (2, .int p2), (3, .int l3)] → W p l e rmX1_shortestWays s m args below meth c H locs 0 0 (MQ below (QI G DA res.1 (wX1 G h0 a0 f0 res.2)) args s 0 0 DA) (F0 m 7 ls []) := by
  intro n
  induction n with
  | zero => intro A0 l3 h; cases h
  | succ n ih => intro A0 l3 h; exact ww_f1_shortestWays_b7 C0  ih A0 l3 h
set_option maxRecDepth 100000 in
set_option maxHeartbeats 4000000 in
theorem kt_X1_shortestWays (l : Launch) (G : Gp) (h0 : Nat) (a0 : Nat → Nat) (f0 : Nat → Int32) (A0 : Nat → Nat → Int32) (p1 : Int32) (p2 : Int32) : ∀ {r : Int32 × (Nat → Nat → Int32)}, f1_shortestWays f0 A0 p1 p2 = some r → CtrI l yX1_shortestWays cX1_shortestWays 5 (some .int) rmX1_shortestWays G [.ref h0, .int p1, .int p2] (wX1 G h0 a0 f0 A0) r.1 (wX1 G h0 a0 f0 r.2) := by
  intro res h
  refine ctrI_of (cc := cX1_shortestWays) (maxL := 5) (ret := (some .int)) (by decide +kernel) rfl (Nat.le_of_ble_eq_true rfl) (fun p e s m below meth c DA C0 hP hD ls hl => ?_)
  have hPD : WD G DA (wX1 G h0 a0 f0 A0) s.heap := ⟨hP, hD⟩
  have hS : va_S DA s.heap s.heap [] := va_S.rf
  have hl : lv_has ls 5 [(0, .ref h0), (1, .int p1), (2, .int p2)] := hl
  obtain ⟨hx, hb, hml, hown, hts⟩ := C0.1
  have hK := C0.2.2.2.1
  unfold f1_shortestWays at h
  refine lv_aload_n hx hb dX1_shortestWays_0 rfl (lv_at hl 0 rfl) ?_
  refine lv_iload_n hx hb dX1_shortestWays_1 rfl (lv_at hl 1 rfl) ?_
  obtain ⟨q_1, hq_1, h⟩ := ob2 h
  refine kVV (As := [.int p1]) (rest := []) C0 (kt_X1_measure l G h0 a0 f0 A0 p1 hq_1) gi_V_X1_54_X1_measure (n := 1) rfl (by decide +kernel) rfl ⟨rfl, rfl, Nat.le_of_ble_eq_true rfl, Nat.le_of_ble_eq_true rfl⟩ hPD hS 0 1 rfl rfl rfl [0, 1, 2, 3] [] [0, 1, 2, 3] (wr := ([] : va_W)) (wN := (wX1 G h0 a0 f0 q_1)) rfl rfl rfl rfl rfl hl.1 (Nat.le_of_ble_eq_true rfl) dX1_shortestWays_2 (fun H locs hPD hS => ?_)
  refine lv_iconst (v := 0) hx hb dX1_shortestWays_5 (by decide) ?_
  refine lv_istore_n (lv' := [(3, .int 0), (0, .ref h0), (1, .int p1), (2, .int p2)]) hx hb dX1_shortestWays_6 rfl hl (by decide) rfl (fun ls hl => ?_)
  exact ww_f1_shortestWays_l7 C0 NF q_1 0 h _ _ _ hPD hS (lv_sub hl [1, 2, 3, 0] rfl)
abbrev rmJ6_bitCount_0f7a4 : Room := { frames := 0, cells := 0, slots := 0, locals := 0 }
set_option maxRecDepth 100000 in
set_option maxHeartbeats 4000000 in
theorem kt_J6_bitCount_0f7a4 (l : Launch) (G : Gp) (p0 : Int32) : CtrI l yJ6_bitCount_0f7a4 cJ6_bitCount_0f7a4 1 (some .int) rmJ6_bitCount_0f7a4 G [.int p0] ([] : va_W) (fJ6_bitCount_0f7a4 p0) ([] : va_W) := by
  obtain ⟨res, h⟩ : ∃ res, fJ6_bitCount_0f7a4 p0 = res := ⟨_, rfl⟩
  rw [h]
  refine ctrI_of (cc := cJ6_bitCount_0f7a4) (maxL := 1) (ret := (some .int)) (by decide +kernel) rfl (Nat.le_of_ble_eq_true rfl) (fun p e s m below meth c DA C0 hP hD ls hl => ?_)
  have hPD : WD G DA ([] : va_W) s.heap := ⟨hP, hD⟩
  have hS : va_S DA s.heap s.heap [] := va_S.rf
  have hl : lv_has ls 1 [(0, .int p0)] := hl
  obtain ⟨hx, hb, hml, hown, hts⟩ := C0.1
  have hK := C0.2.2.2.1
  unfold fJ6_bitCount_0f7a4 at h
  refine lv_iload_n hx hb dJ6_bitCount_0f7a4_0 rfl (lv_at hl 0 rfl) ?_
  refine lv_iload_n hx hb dJ6_bitCount_0f7a4_1 rfl (lv_at hl 0 rfl) ?_
  refine lv_iconst (v := 1) hx hb dJ6_bitCount_0f7a4_2 (by decide) ?_
  refine lv_iushr (v := ushr p0 1) hx hb dJ6_bitCount_0f7a4_3 rfl ?_
  refine lv_ldcw (v := 1431655765) hx hb hown (hts _ gw_104) dJ6_bitCount_0f7a4_4 ?_
  refine lv_iand hx hb dJ6_bitCount_0f7a4_7 ?_
  refine lv_isub hx hb dJ6_bitCount_0f7a4_8 ?_
  refine lv_istore_n (lv' := [(0, .int (p0 - ((ushr p0 1) &&& 1431655765)))]) hx hb dJ6_bitCount_0f7a4_9 rfl hl (by decide) rfl (fun ls hl => ?_)
  refine lv_iload_n hx hb dJ6_bitCount_0f7a4_10 rfl (lv_at hl 0 rfl) ?_
  refine lv_ldcw (v := 858993459) hx hb hown (hts _ gw_105) dJ6_bitCount_0f7a4_11 ?_
  refine lv_iand hx hb dJ6_bitCount_0f7a4_14 ?_
  refine lv_iload_n hx hb dJ6_bitCount_0f7a4_15 rfl (lv_at hl 0 rfl) ?_
  refine lv_iconst (v := 2) hx hb dJ6_bitCount_0f7a4_16 (by decide) ?_
  refine lv_iushr (v := ushr (p0 - ((ushr p0 1) &&& 1431655765)) 2) hx hb dJ6_bitCount_0f7a4_17 rfl ?_
  refine lv_ldcw (v := 858993459) hx hb hown (hts _ gw_105) dJ6_bitCount_0f7a4_18 ?_
  refine lv_iand hx hb dJ6_bitCount_0f7a4_21 ?_
  refine lv_iadd hx hb dJ6_bitCount_0f7a4_22 ?_
  obtain ⟨x_1, ex_1, h⟩ := lvl h
  refine lv_nm ex_1 ?_
  refine lv_istore_n (lv' := [(0, .int x_1)]) hx hb dJ6_bitCount_0f7a4_23 rfl hl (by decide) rfl (fun ls hl => ?_)
  refine lv_iload_n hx hb dJ6_bitCount_0f7a4_24 rfl (lv_at hl 0 rfl) ?_
  refine lv_iload_n hx hb dJ6_bitCount_0f7a4_25 rfl (lv_at hl 0 rfl) ?_
  refine lv_iconst (v := 4) hx hb dJ6_bitCount_0f7a4_26 (by decide) ?_
  refine lv_iushr (v := ushr x_1 4) hx hb dJ6_bitCount_0f7a4_27 rfl ?_
  refine lv_iadd hx hb dJ6_bitCount_0f7a4_28 ?_
  refine lv_ldcw (v := 252645135) hx hb hown (hts _ gw_106) dJ6_bitCount_0f7a4_29 ?_
  refine lv_iand hx hb dJ6_bitCount_0f7a4_32 ?_
  refine lv_istore_n (lv' := [(0, .int ((x_1 + (ushr x_1 4)) &&& 252645135))]) hx hb dJ6_bitCount_0f7a4_33 rfl hl (by decide) rfl (fun ls hl => ?_)
  refine lv_iload_n hx hb dJ6_bitCount_0f7a4_34 rfl (lv_at hl 0 rfl) ?_
  refine lv_iload_n hx hb dJ6_bitCount_0f7a4_35 rfl (lv_at hl 0 rfl) ?_
  refine lv_bipush (v := 8) hx hb dJ6_bitCount_0f7a4_36 (by decide) ?_
  refine lv_iushr (v := ushr ((x_1 + (ushr x_1 4)) &&& 252645135) 8) hx hb dJ6_bitCount_0f7a4_38 rfl ?_
  refine lv_iadd hx hb dJ6_bitCount_0f7a4_39 ?_
  obtain ⟨x_2, ex_2, h⟩ := lvl h
  refine lv_nm ex_2 ?_
  refine lv_istore_n (lv' := [(0, .int x_2)]) hx hb dJ6_bitCount_0f7a4_40 rfl hl (by decide) rfl (fun ls hl => ?_)
  refine lv_iload_n hx hb dJ6_bitCount_0f7a4_41 rfl (lv_at hl 0 rfl) ?_
  refine lv_iload_n hx hb dJ6_bitCount_0f7a4_42 rfl (lv_at hl 0 rfl) ?_
  refine lv_bipush (v := 16) hx hb dJ6_bitCount_0f7a4_43 (by decide) ?_
  refine lv_iushr (v := ushr x_2 16) hx hb dJ6_bitCount_0f7a4_45 rfl ?_
  refine lv_iadd hx hb dJ6_bitCount_0f7a4_46 ?_
  refine lv_istore_n (lv' := [(0, .int (x_2 + (ushr x_2 16)))]) hx hb dJ6_bitCount_0f7a4_47 rfl hl (by decide) rfl (fun ls hl => ?_)
  refine lv_iload_n hx hb dJ6_bitCount_0f7a4_48 rfl (lv_at hl 0 rfl) ?_
  refine lv_bipush (v := 63) hx hb dJ6_bitCount_0f7a4_49 (by decide) ?_
  refine lv_iand hx hb dJ6_bitCount_0f7a4_51 ?_
  subst h
  exact eI C0 hPD.1 hPD.2 hS rfl dJ6_bitCount_0f7a4_52
end WALK
