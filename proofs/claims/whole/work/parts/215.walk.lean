section WALK
variable {p : Program} {l : Launch} {e : Env} {s : State} {m : MethodId} {args : Array Value} {below : List Frame} {meth : Method} {c : Code} {G : Gp} {DA : Nat → Prop}
set_option maxRecDepth 100000 in
set_option maxHeartbeats 4000000 in
theorem ww_f6_copy_l2  (C0 : Cx cX6_copy 3 none RX6 p s m args meth c G DA) {h0 : Nat} {a0 : Nat → Nat} {h1 : Nat} {a1 : Nat → Nat} {f1 : Nat → Int32} {A1 : Nat → Nat → Int32}   {res : (Nat → Nat → Int32) × (Nat → Int32)}  : ∀ (n : Nat) (A0 : Nat → Nat → Int32) (f0 : Nat → Int32) (l2 : Int32), f6_copy_l2 f1 A1  n A0 f0 l2 = some res → ∀ (H : Heap) (locs : List Loc) (ls : Array Slot), WD G DA (wX6 G h0 a0 f0 A0 ++ (wX6 G h1 a1 f1 A1)) H → va_S DA s.heap H locs → lv_has ls 3 [(0, .ref h0), (1, .ref h1), (2, .int l2)] → W p l e rmX6_copy s m args below meth c H locs 0 0 (MQ below (QV G DA (wX6 G h0 a0 res.2 res.1 ++ (wX6 G h1 a1 f1 A1))) args s 0 0 DA) (F0 m 2 ls []) := by
  intro n
  induction n with
  | zero => intro A0 f0 l2 h; cases h
  | succ n ih => intro A0 f0 l2 h; exact ww_f6_copy_b2 C0  ih A0 f0 l2 h
set_option maxRecDepth 100000 in
set_option maxHeartbeats 4000000 in
theorem kt_X6_copy (l : Launch) (G : Gp) (h0 : Nat) (a0 : Nat → Nat) (h1 : Nat) (a1 : Nat → Nat) (f0 : Nat → Int32) (A0 : Nat → Nat → Int32) (f1 : Nat → Int32) (A1 : Nat → Nat → Int32) : ∀ {r : (Nat → Nat → Int32) × (Nat → Int32)}, f6_copy f0 A0 f1 A1 = some r → CtrV l yX6_copy cX6_copy 3 none rmX6_copy G [.ref h0, .ref h1] (wX6 G h0 a0 f0 A0 ++ (wX6 G h1 a1 f1 A1)) (wX6 G h0 a0 r.2 r.1 ++ (wX6 G h1 a1 f1 A1)) := by
  intro res h
  refine ctrV_of (cc := cX6_copy) (maxL := 3) (ret := none) (by decide +kernel) rfl (Nat.le_of_ble_eq_true rfl) (fun p e s m below meth c DA C0 hP hD ls hl => ?_)
  have hPD : WD G DA (wX6 G h0 a0 f0 A0 ++ (wX6 G h1 a1 f1 A1)) s.heap := ⟨hP, hD⟩
  have hS : va_S DA s.heap s.heap [] := va_S.rf
  have hl : lv_has ls 3 [(0, .ref h0), (1, .ref h1)] := hl
  obtain ⟨hx, hb, hml, hown, hts⟩ := C0.1
  have hK := C0.2.2.2.1
  unfold f6_copy at h
  refine lv_iconst (v := 0) hx hb dX6_copy_0 (by decide) ?_
  refine lv_istore_n (lv' := [(2, .int 0), (0, .ref h0), (1, .ref h1)]) hx hb dX6_copy_1 rfl hl (by decide) rfl (fun ls hl => ?_)
  exact ww_f6_copy_l2 C0 NF A0 f0 0 h _ _ _ hPD hS (lv_sub hl [1, 2, 0] rfl)
abbrev rmX6_standAt : Room := { frames := 3, cells := 0, slots := 0, locals := 64 }
set_option maxRecDepth 100000 in
set_option maxHeartbeats 4000000 in
theorem ww_f6_standAt_b4  (C0 : Cx cX6_standAt 4 (some .int) RX6 p s m args meth c G DA) {h0 : Nat} {a0 : Nat → Nat} {f0 : Nat → Int32} {A0 : Nat → Nat → Int32} {p1 : Int32}  {k4 : Int32 → Int32 → Option (Int32)} {res : Int32}  (hk4 : ∀ (l2 : Int32) (l3 : Int32), k4 l2 l3 = some res → ∀ (H : Heap) (locs : List Loc) (ls : Array Slot), WD G DA (wX6 G h0 a0 f0 A0) H → va_S DA s.heap H locs → lv_has ls 4 [(0, .ref h0), (1, .int p1), (2, .int l2), (3, .int l3)] → W p l e rmX6_standAt s m args below meth c H locs 0 0 (MQ below (QI G DA res (wX6 G h0 a0 f0 A0)) args s 0 0 DA) (F0 m 4 ls [])) : ∀ (l2 : Int32) (l3 : Int32), f6_standAt_b4 f0 A0 p1  k4 l2 l3 = some res → ∀ (H : Heap) (locs : List Loc) (ls : Array Slot), WD G DA (wX6 G h0 a0 f0 A0) H → va_S DA s.heap H locs → lv_has ls 4 [(0, .ref h0), (1, .int p1), (2, .int l2), (3, .int l3)] → W p l e rmX6_standAt s m args below meth c H locs 0 0 (MQ below (QI G DA res (wX6 G h0 a0 f0 A0)) args s 0 0 DA) (F0 m 4 ls []) := by
  obtain ⟨hx, hb, hml, hown, hts⟩ := C0.1
  have hK := C0.2.2.2.1
  intro l2 l3 h _ _ _ hPD hS hl
  unfold f6_standAt_b4 at h
  refine lv_iload_n hx hb dX6_standAt_4 rfl (lv_at hl 3 rfl) ?_
  refine lv_bipush (v := 8) hx hb dX6_standAt_5 (by decide) ?_
  refine lv_icmp_ge (tgt := 42) hx hb dX6_standAt_7 (by decide) (fun cc1 => ?_) (fun cc1 => ?_)
  · have h := (if_pos cc1).symm.trans h
    refine lv_iload_n hx hb dX6_standAt_42 rfl (lv_at hl 2 rfl) ?_
    obtain rfl := Option.some.inj h
    exact eI C0 hPD.1 hPD.2 hS rfl dX6_standAt_43
  · have h := (if_neg cc1).symm.trans h
    refine lv_aload_n hx hb dX6_standAt_10 rfl (lv_at hl 0 rfl) ?_
    refine lv_iload_n hx hb dX6_standAt_11 rfl (lv_at hl 3 rfl) ?_
    refine kVI (As := [.int l3]) (rest := []) C0 (kt_X6_isTold l G h0 a0 f0 A0 l3) gi_V_X6_59_X6_isTold (n := 1) rfl (by decide +kernel) rfl ⟨rfl, rfl, Nat.le_of_ble_eq_true rfl, Nat.le_of_ble_eq_true rfl⟩ hPD hS 0 6 rfl rfl rfl [0, 1, 2, 3, 4, 5] [] [0, 1, 2, 3, 4, 5] (wr := ([] : va_W)) (wN := (wX6 G h0 a0 f0 A0)) rfl rfl rfl rfl rfl hl.1 (Nat.le_of_ble_eq_true rfl) dX6_standAt_12 (fun H locs hPD hS => ?_)
    refine lv_if_eq (tgt := 36) hx hb dX6_standAt_15 (by decide) (fun cc1 => ?_) (fun cc1 => ?_)
    · have h := (if_pos cc1).symm.trans h
      refine lv_iinc (v := l3 + 1) (lv' := [(3, .int (l3 + 1)), (0, .ref h0), (1, .int p1), (2, .int l2)]) hx hb dX6_standAt_36 hl (k := 3) rfl rfl (by decide) rfl (fun ls hl => ?_)
      refine lv_goto (tgt := 4) hx hb dX6_standAt_39 (by decide) ?_
      exact hk4 l2 (l3 + 1) h _ _ _ hPD hS (lv_sub hl [1, 2, 3, 0] rfl)
    · have h := (if_neg cc1).symm.trans h
      refine lv_aload_n hx hb dX6_standAt_18 rfl (lv_at hl 0 rfl) ?_
      refine va_get (D := G.1) (ci := 6) (v := .ref (a0 3)) (C := RX6) (T := TX6) (N := 10) hx hb hts inlX6 hown hK hPD.1 0 rfl rfl 3 (by decide) (hts _ gw_325) (fun _ h9 => h9) rfl dX6_standAt_19 ?_
      refine lv_iload_n hx hb dX6_standAt_22 rfl (lv_at hl 3 rfl) ?_
      refine kNI (As := [.ref (a0 3), .int l3]) (rest := []) C0 (kt_X9_at l G (a0 3) 8 (A0 3) l3 (by decide)) gi_U_X9_at (host := "IdleCrimes") (index := 43) (List.mem_of_getElem? (i := 30) rfl) gw_6 gw_7 (n := 2) rfl (by decide +kernel) ⟨rfl, rfl, Nat.le_of_ble_eq_true rfl, Nat.le_of_ble_eq_true rfl⟩ hPD hS [4] [0, 1, 2, 3, 5] [0, 1, 2, 3, 5, 4] (wr := pick (wX6 G h0 a0 f0 A0) [0, 1, 2, 3, 5]) (wN := (wX6 G h0 a0 f0 A0)) rfl rfl rfl rfl rfl hl.1 (Nat.le_of_ble_eq_true rfl) dX6_standAt_23 (fun H locs hPD hS => ?_)
      refine lv_iload_n hx hb dX6_standAt_26 rfl (lv_at hl 1 rfl) ?_
      refine lv_icmp_ne (tgt := 36) hx hb dX6_standAt_27 (by decide) (fun cc1 => ?_) (fun cc1 => ?_)
      · have h := (if_neg cc1).symm.trans h
        refine lv_iinc (v := l3 + 1) (lv' := [(3, .int (l3 + 1)), (0, .ref h0), (1, .int p1), (2, .int l2)]) hx hb dX6_standAt_36 hl (k := 3) rfl rfl (by decide) rfl (fun ls hl => ?_)
        refine lv_goto (tgt := 4) hx hb dX6_standAt_39 (by decide) ?_
        exact hk4 l2 (l3 + 1) h _ _ _ hPD hS (lv_sub hl [1, 2, 3, 0] rfl)
      · have h := (if_pos cc1).symm.trans h
        refine lv_iload_n hx hb dX6_standAt_30 rfl (lv_at hl 2 rfl) ?_
        refine lv_iconst (v := 1) hx hb dX6_standAt_31 (by decide) ?_
        refine lv_iload_n hx hb dX6_standAt_32 rfl (lv_at hl 3 rfl) ?_
        refine lv_ishl hx hb dX6_standAt_33 ?_
        refine lv_ior hx hb dX6_standAt_34 ?_
        refine lv_istore_n (lv' := [(2, .int (l2 ||| (shl 1 l3))), (0, .ref h0), (1, .int p1), (3, .int l3)]) hx hb dX6_standAt_35 rfl hl (by decide) rfl (fun ls hl => ?_)
        refine lv_iinc (v := l3 + 1) (lv' := [(3, .int (l3 + 1)), (2, .int (l2 ||| (shl 1 l3))), (0, .ref h0), (1, .int p1)]) hx hb dX6_standAt_36 hl (k := 3) rfl rfl (by decide) rfl (fun ls hl => ?_)
        refine lv_goto (tgt := 4) hx hb dX6_standAt_39 (by decide) ?_
        exact hk4 (l2 ||| (shl 1 l3)) (l3 + 1) h _ _ _ hPD hS (lv_sub hl [2, 3, 1, 0] rfl)
set_option maxRecDepth 100000 in
set_option maxHeartbeats 4000000 in
theorem ww_f6_standAt_l4  (C0 : Cx cX6_standAt 4 (some .int) RX6 p s m args meth c G DA) {h0 : Nat} {a0 : Nat → Nat} {f0 : Nat → Int32} {A0 : Nat → Nat → Int32} {p1 : Int32}   {res : Int32}  : ∀ (n : Nat) (l2 : Int32) (l3 : Int32), f6_standAt_l4 f0 A0 p1  n l2 l3 = some res → ∀ (H : Heap) (locs : List Loc) (ls : Array Slot), WD G DA (wX6 G h0 a0 f0 A0) H → va_S DA s.heap H locs → lv_has ls 4 [(0, .ref h0), (1, .int p1), (2, .int l2), (3, .int l3)] → W p l e rmX6_standAt s m args below meth c H locs 0 0 (MQ below (QI G DA res (wX6 G h0 a0 f0 A0)) args s 0 0 DA) (F0 m 4 ls []) := by
  intro n
  induction n with
  | zero => intro l2 l3 h; cases h
  | succ n ih => intro l2 l3 h; exact ww_f6_standAt_b4 C0  ih l2 l3 h
set_option maxRecDepth 100000 in
set_option maxHeartbeats 4000000 in
theorem kt_X6_standAt (l : Launch) (G : Gp) (h0 : Nat) (a0 : Nat → Nat) (f0 : Nat → Int32) (A0 : Nat → Nat → Int32) (p1 : Int32) : ∀ {r : Int32}, f6_standAt f0 A0 p1 = some r → CtrI l yX6_standAt cX6_standAt 4 (some .int) rmX6_standAt G [.ref h0, .int p1] (wX6 G h0 a0 f0 A0) r (wX6 G h0 a0 f0 A0) := by
  intro res h
  refine ctrI_of (cc := cX6_standAt) (maxL := 4) (ret := (some .int)) (by decide +kernel) rfl (Nat.le_of_ble_eq_true rfl) (fun p e s m below meth c DA C0 hP hD ls hl => ?_)
  have hPD : WD G DA (wX6 G h0 a0 f0 A0) s.heap := ⟨hP, hD⟩
  have hS : va_S DA s.heap s.heap [] := va_S.rf
  have hl : lv_has ls 4 [(0, .ref h0), (1, .int p1)] := hl
  obtain ⟨hx, hb, hml, hown, hts⟩ := C0.1
  have hK := C0.2.2.2.1
  unfold f6_standAt at h
  refine lv_iconst (v := 0) hx hb dX6_standAt_0 (by decide) ?_
  refine lv_istore_n (lv' := [(2, .int 0), (0, .ref h0), (1, .int p1)]) hx hb dX6_standAt_1 rfl hl (by decide) rfl (fun ls hl => ?_)
  refine lv_iconst (v := 0) hx hb dX6_standAt_2 (by decide) ?_
  refine lv_istore_n (lv' := [(3, .int 0), (2, .int 0), (0, .ref h0), (1, .int p1)]) hx hb dX6_standAt_3 rfl hl (by decide) rfl (fun ls hl => ?_)
  exact ww_f6_standAt_l4 C0 NF 0 0 h _ _ _ hPD hS (lv_sub hl [2, 3, 1, 0] rfl)
abbrev rmX6_stoodAt : Room := { frames := 3, cells := 0, slots := 0, locals := 64 }
set_option maxRecDepth 100000 in
set_option maxHeartbeats 4000000 in
theorem ww_f6_stoodAt_b4  (C0 : Cx cX6_stoodAt 3 (some .int) RX6 p s m args meth c G DA) {h0 : Nat} {a0 : Nat → Nat} {f0 : Nat → Int32} {A0 : Nat → Nat → Int32}  {k4 : Int32 → Int32 → Option (Int32)} {res : Int32}  (hk4 : ∀ (l1 : Int32) (l2 : Int32), k4 l1 l2 = some res → ∀ (H : Heap) (locs : List Loc) (ls : Array Slot), WD G DA (wX6 G h0 a0 f0 A0) H → va_S DA s.heap H locs → lv_has ls 3 [(0, .ref h0), (1, .int l1), (2, .int l2)] → W p l e rmX6_stoodAt s m args below meth c H locs 0 0 (MQ below (QI G DA res (wX6 G h0 a0 f0 A0)) args s 0 0 DA) (F0 m 4 ls [])) : ∀ (l1 : Int32) (l2 : Int32), f6_stoodAt_b4 f0 A0  k4 l1 l2 = some res → ∀ (H : Heap) (locs : List Loc) (ls : Array Slot), WD G DA (wX6 G h0 a0 f0 A0) H → va_S DA s.heap H locs → lv_has ls 3 [(0, .ref h0), (1, .int l1), (2, .int l2)] → W p l e rmX6_stoodAt s m args below meth c H locs 0 0 (MQ below (QI G DA res (wX6 G h0 a0 f0 A0)) args s 0 0 DA) (F0 m 4 ls []) := by
  obtain ⟨hx, hb, hml, hown, hts⟩ := C0.1
  have hK := C0.2.2.2.1
  intro l1 l2 h _ _ _ hPD hS hl
  unfold f6_stoodAt_b4 at h
  refine lv_iload_n hx hb dX6_stoodAt_4 rfl (lv_at hl 2 rfl) ?_
  refine lv_bipush (v := 8) hx hb dX6_stoodAt_5 (by decide) ?_
  refine lv_icmp_ge (tgt := 37) hx hb dX6_stoodAt_7 (by decide) (fun cc1 => ?_) (fun cc1 => ?_)
  · have h := (if_pos cc1).symm.trans h
    refine lv_iload_n hx hb dX6_stoodAt_37 rfl (lv_at hl 1 rfl) ?_
    obtain rfl := Option.some.inj h
    exact eI C0 hPD.1 hPD.2 hS rfl dX6_stoodAt_38
  · have h := (if_neg cc1).symm.trans h
    refine lv_aload_n hx hb dX6_stoodAt_10 rfl (lv_at hl 0 rfl) ?_
    refine lv_iload_n hx hb dX6_stoodAt_11 rfl (lv_at hl 2 rfl) ?_
    refine kVI (As := [.int l2]) (rest := []) C0 (kt_X6_isTold l G h0 a0 f0 A0 l2) gi_V_X6_59_X6_isTold (n := 1) rfl (by decide +kernel) rfl ⟨rfl, rfl, Nat.le_of_ble_eq_true rfl, Nat.le_of_ble_eq_true rfl⟩ hPD hS 0 6 rfl rfl rfl [0, 1, 2, 3, 4, 5] [] [0, 1, 2, 3, 4, 5] (wr := ([] : va_W)) (wN := (wX6 G h0 a0 f0 A0)) rfl rfl rfl rfl rfl hl.1 (Nat.le_of_ble_eq_true rfl) dX6_stoodAt_12 (fun H locs hPD hS => ?_)
    refine lv_if_eq (tgt := 31) hx hb dX6_stoodAt_15 (by decide) (fun cc1 => ?_) (fun cc1 => ?_)
    · have h := (if_pos cc1).symm.trans h
      refine lv_iinc (v := l2 + 1) (lv' := [(2, .int (l2 + 1)), (0, .ref h0), (1, .int l1)]) hx hb dX6_stoodAt_31 hl (k := 2) rfl rfl (by decide) rfl (fun ls hl => ?_)
      refine lv_goto (tgt := 4) hx hb dX6_stoodAt_34 (by decide) ?_
      exact hk4 l1 (l2 + 1) h _ _ _ hPD hS (lv_sub hl [1, 2, 0] rfl)
    · have h := (if_neg cc1).symm.trans h
      refine lv_iload_n hx hb dX6_stoodAt_18 rfl (lv_at hl 1 rfl) ?_
      refine lv_iconst (v := 1) hx hb dX6_stoodAt_19 (by decide) ?_
      refine lv_aload_n hx hb dX6_stoodAt_20 rfl (lv_at hl 0 rfl) ?_
      refine va_get (D := G.1) (ci := 6) (v := .ref (a0 3)) (C := RX6) (T := TX6) (N := 10) hx hb hts inlX6 hown hK hPD.1 0 rfl rfl 3 (by decide) (hts _ gw_325) (fun _ h9 => h9) rfl dX6_stoodAt_21 ?_
      refine lv_iload_n hx hb dX6_stoodAt_24 rfl (lv_at hl 2 rfl) ?_
      refine kNI (As := [.ref (a0 3), .int l2]) (rest := [.int 1, .int l1]) C0 (kt_X9_at l G (a0 3) 8 (A0 3) l2 (by decide)) gi_U_X9_at (host := "IdleCrimes") (index := 43) (List.mem_of_getElem? (i := 30) rfl) gw_6 gw_7 (n := 2) rfl (by decide +kernel) ⟨rfl, rfl, Nat.le_of_ble_eq_true rfl, Nat.le_of_ble_eq_true rfl⟩ hPD hS [4] [0, 1, 2, 3, 5] [0, 1, 2, 3, 5, 4] (wr := pick (wX6 G h0 a0 f0 A0) [0, 1, 2, 3, 5]) (wN := (wX6 G h0 a0 f0 A0)) rfl rfl rfl rfl rfl hl.1 (Nat.le_of_ble_eq_true rfl) dX6_stoodAt_25 (fun H locs hPD hS => ?_)
      refine lv_ishl hx hb dX6_stoodAt_28 ?_
      refine lv_ior hx hb dX6_stoodAt_29 ?_
      refine lv_istore_n (lv' := [(1, .int (l1 ||| (shl 1 (f9_at 8 (A0 3) l2)))), (0, .ref h0), (2, .int l2)]) hx hb dX6_stoodAt_30 rfl hl (by decide) rfl (fun ls hl => ?_)
      refine lv_iinc (v := l2 + 1) (lv' := [(2, .int (l2 + 1)), (1, .int (l1 ||| (shl 1 (f9_at 8 (A0 3) l2)))), (0, .ref h0)]) hx hb dX6_stoodAt_31 hl (k := 2) rfl rfl (by decide) rfl (fun ls hl => ?_)
      refine lv_goto (tgt := 4) hx hb dX6_stoodAt_34 (by decide) ?_
      exact hk4 (l1 ||| (shl 1 (f9_at 8 (A0 3) l2))) (l2 + 1) h _ _ _ hPD hS (lv_sub hl [2, 1, 0] rfl)
set_option maxRecDepth 100000 in
set_option maxHeartbeats 4000000 in
theorem ww_f6_stoodAt_l4  (C0 : Cx cX6_stoodAt 3 (some .int) RX6 p s m args meth c G DA) {h0 : Nat} {a0 : Nat → Nat} {f0 : Nat → Int32} {A0 : Nat → Nat → Int32}   {res : Int32}  : ∀ (n : Nat) (l1 : Int32) (l2 : Int32), f6_stoodAt_l4 f0 A0  n l1 l2 = some res → ∀ (H : Heap) (locs : List Loc) (ls : Array Slot), WD G DA (wX6 G h0 a0 f0 A0) H → va_S DA s.heap H locs → lv_has ls 3 [(0, .ref h0), (1, .int l1), (2, .int l2)] → W p l e rmX6_stoodAt s m args below meth c H locs 0 0 (MQ below (QI G DA res (wX6 G h0 a0 f0 A0)) args s 0 0 DA) (F0 m 4 ls []) := by
  intro n
  induction n with
  | zero => intro l1 l2 h; cases h
  | succ n ih => intro l1 l2 h; exact ww_f6_stoodAt_b4 C0  ih l1 l2 h
set_option maxRecDepth 100000 in
set_option maxHeartbeats 4000000 in
theorem kt_X6_stoodAt (l : Launch) (G : Gp) (h0 : Nat) (a0 : Nat → Nat) (f0 : Nat → Int32) (A0 : Nat → Nat → Int32) : ∀ {r : Int32}, f6_stoodAt f0 A0 = some r → CtrI l yX6_stoodAt cX6_stoodAt 3 (some .int) rmX6_stoodAt G [.ref h0] (wX6 G h0 a0 f0 A0) r (wX6 G h0 a0 f0 A0) := by
  intro res h
  refine ctrI_of (cc := cX6_stoodAt) (maxL := 3) (ret := (some .int)) (by decide +kernel) rfl (Nat.le_of_ble_eq_true rfl) (fun p e s m below meth c DA C0 hP hD ls hl => ?_)
  have hPD : WD G DA (wX6 G h0 a0 f0 A0) s.heap := ⟨hP, hD⟩
  have hS : va_S DA s.heap s.heap [] := va_S.rf
  have hl : lv_has ls 3 [(0, .ref h0)] := hl
  obtain ⟨hx, hb, hml, hown, hts⟩ := C0.1
  have hK := C0.2.2.2.1
  unfold f6_stoodAt at h
  refine lv_iconst (v := 0) hx hb dX6_stoodAt_0 (by decide) ?_
  refine lv_istore_n (lv' := [(1, .int 0), (0, .ref h0)]) hx hb dX6_stoodAt_1 rfl hl (by decide) rfl (fun ls hl => ?_)
  refine lv_iconst (v := 0) hx hb dX6_stoodAt_2 (by decide) ?_
  refine lv_istore_n (lv' := [(2, .int 0), (1, .int 0), (0, .ref h0)]) hx hb dX6_stoodAt_3 rfl hl (by decide) rfl (fun ls hl => ?_)
  exact ww_f6_stoodAt_l4 C0 NF 0 0 h _ _ _ hPD hS (lv_sub hl [2, 1, 0] rfl)
abbrev rmX6_wages : Room := { frames := 3, cells := 0, slots := 0, locals := 66 }
set_option maxRecDepth 100000 in
set_option maxHeartbeats 4000000 in
theorem kt_X6_wages (l : Launch) (G : Gp) (h0 : Nat) (a0 : Nat → Nat) (f0 : Nat → Int32) (A0 : Nat → Nat → Int32) : ∀ {r : Int32}, f6_wages f0 A0 = some r → CtrI l yX6_wages cX6_wages 1 (some .int) rmX6_wages G [.ref h0] (wX6 G h0 a0 f0 A0) r (wX6 G h0 a0 f0 A0) := by
  intro res h
  refine ctrI_of (cc := cX6_wages) (maxL := 1) (ret := (some .int)) (by decide +kernel) rfl (Nat.le_of_ble_eq_true rfl) (fun p e s m below meth c DA C0 hP hD ls hl => ?_)
  have hPD : WD G DA (wX6 G h0 a0 f0 A0) s.heap := ⟨hP, hD⟩
  have hS : va_S DA s.heap s.heap [] := va_S.rf
  have hl : lv_has ls 1 [(0, .ref h0)] := hl
  obtain ⟨hx, hb, hml, hown, hts⟩ := C0.1
  have hK := C0.2.2.2.1
  unfold f6_wages at h
  refine lv_aload_n hx hb dX6_wages_0 rfl (lv_at hl 0 rfl) ?_
  refine va_get (D := G.1) (ci := 6) (v := .ref (a0 4)) (C := RX6) (T := TX6) (N := 10) hx hb hts inlX6 hown hK hPD.1 0 rfl rfl 4 (by decide) (hts _ gw_326) (fun _ h9 => h9) rfl dX6_wages_1 ?_
  refine lv_aload_n hx hb dX6_wages_4 rfl (lv_at hl 0 rfl) ?_
  refine va_get (D := G.1) (ci := 6) (v := .int (f0 5)) (C := RX6) (T := TX6) (N := 10) hx hb hts inlX6 hown hK hPD.1 0 rfl rfl 5 (by decide) (hts _ gw_260) (fun _ h9 => h9) rfl dX6_wages_5 ?_
  obtain ⟨q_1, hq_1, h⟩ := ob2 h
  refine kNI (As := [.ref (a0 4), .int (f0 5)]) (rest := []) C0 (kt_X9_sumOf l G (a0 4) 8 (A0 4) (f0 5) (by decide) hq_1) gi_U_X9_sumOf (host := "IdleCrimes") (index := 63) (List.mem_of_getElem? (i := 32) rfl) gw_6 gw_280 (n := 2) rfl (by decide +kernel) ⟨rfl, rfl, Nat.le_of_ble_eq_true rfl, Nat.le_of_ble_eq_true rfl⟩ hPD hS [5] [0, 1, 2, 3, 4] [0, 1, 2, 3, 4, 5] (wr := pick (wX6 G h0 a0 f0 A0) [0, 1, 2, 3, 4]) (wN := (wX6 G h0 a0 f0 A0)) rfl rfl rfl rfl rfl hl.1 (Nat.le_of_ble_eq_true rfl) dX6_wages_8 (fun H locs hPD hS => ?_)
  obtain rfl := Option.some.inj h
  exact eI C0 hPD.1 hPD.2 hS rfl dX6_wages_11
abbrev rmX7_append : Room := { frames := 1, cells := 0, slots := 0, locals := 22 }
set_option maxRecDepth 100000 in
set_option maxHeartbeats 4000000 in
theorem ww_f7_append_b3  (C0 : Cx cX7_append 3 none RX7 p s m args meth c G DA) {h0 : Nat} {a0 : Nat → Nat} {p1 : Int32}  {k3 : (Nat → Nat → Int32) → (Nat → Int32) → Int32 → Option ((Nat → Nat → Int32) × (Nat → Int32))} {res : (Nat → Nat → Int32) × (Nat → Int32)}  (hk3 : ∀ (A0 : Nat → Nat → Int32) (f0 : Nat → Int32) (l2 : Int32), k3 A0 f0 l2 = some res → ∀ (H : Heap) (locs : List Loc) (ls : Array Slot), WD G DA (wX7 G h0 a0 f0 A0) H → va_S DA s.heap H locs → lv_has ls 3 [(0, .ref h0), (1, .int p1), (2, .int l2)] → W p l e rmX7_append s m args below meth c H locs 0 0 (MQ below (QV G DA (wX7 G h0 a0 res.2 res.1)) args s 0 0 DA) (F0 m 3 ls [])) : ∀ (A0 : Nat → Nat → Int32) (f0 : Nat → Int32) (l2 : Int32), f7_append_b3 p1  k3 A0 f0 l2 = some res → ∀ (H : Heap) (locs : List Loc) (ls : Array Slot), WD G DA (wX7 G h0 a0 f0 A0) H → va_S DA s.heap H locs → lv_has ls 3 [(0, .ref h0), (1, .int p1), (2, .int l2)] → W p l e rmX7_append s m args below meth c H locs 0 0 (MQ below (QV G DA (wX7 G h0 a0 res.2 res.1)) args s 0 0 DA) (F0 m 3 ls []) := by
  obtain ⟨hx, hb, hml, hown, hts⟩ := C0.1
  have hK := C0.2.2.2.1
  intro A0 f0 l2 h _ _ _ hPD hS hl
  unfold f7_append_b3 at h
  refine lv_iload_n hx hb dX7_append_3 rfl (lv_at hl 2 rfl) ?_
  refine lv_if_lt (tgt := 41) hx hb dX7_append_4 (by decide) (fun cc1 => ?_) (fun cc1 => ?_)
  · have h := (if_pos cc1).symm.trans h
    obtain rfl := Option.some.inj h
    exact eV C0 hPD.1 hPD.2 hS dX7_append_41
  · have h := (if_neg cc1).symm.trans h
    refine lv_aload_n hx hb dX7_append_7 rfl (lv_at hl 0 rfl) ?_
    refine va_get (D := G.1) (ci := 7) (v := .ref (a0 0)) (C := RX7) (T := TX7) (N := 6) hx hb hts inlX7 hown hK hPD.1 0 rfl rfl 0 (by decide) (hts _ gw_12) (fun _ h9 => h9) rfl dX7_append_8 ?_
    refine lv_aload_n hx hb dX7_append_11 rfl (lv_at hl 0 rfl) ?_
    refine va_get (D := G.1) (ci := 7) (v := .int (f0 1)) (C := RX7) (T := TX7) (N := 6) hx hb hts inlX7 hown hK hPD.1 0 rfl rfl 1 (by decide) (hts _ gw_331) (fun _ h9 => h9) rfl dX7_append_12 ?_
    refine lv_iload_n hx hb dX7_append_15 rfl (lv_at hl 1 rfl) ?_
    refine lv_iload_n hx hb dX7_append_16 rfl (lv_at hl 2 rfl) ?_
    refine lv_iushr (v := ushr p1 l2) hx hb dX7_append_17 rfl ?_
    refine lv_sipush (v := 255) hx hb dX7_append_18 (by decide) ?_
    refine lv_iand hx hb dX7_append_21 ?_
    obtain ⟨z_1, ez_1, h⟩ := lvl h
    have kc := kt_X9_put l G (a0 0) 260 (A0 0) (f0 1) ((ushr p1 l2) &&& 255) (by decide)
    rw [← ez_1] at kc
    clear ez_1
    refine kNV (As := [.ref (a0 0), .int (f0 1), .int ((ushr p1 l2) &&& 255)]) (rest := []) C0 (kc) gi_U_X9_put (host := "IdleCrimes") (index := 31) (List.mem_of_getElem? (i := 10) rfl) gw_6 gw_19 (n := 3) rfl (by decide +kernel) ⟨rfl, rfl, Nat.le_of_ble_eq_true rfl, Nat.le_of_ble_eq_true rfl⟩ hPD hS [1] [0] [0, 1] (wr := pick (wX7 G h0 a0 f0 A0) [0]) (wN := (wX7 G h0 a0 f0 (updA A0 0 z_1))) rfl rfl rfl rfl rfl hl.1 (Nat.le_of_ble_eq_true rfl) dX7_append_22 (fun H locs hPD hS => ?_)
    obtain ⟨A0_2, eA0_2, h⟩ := lvl h
    have hPD : WD G DA (wX7 G h0 a0 f0 A0_2) H := by rw [eA0_2]; exact hPD
    clear eA0_2
    refine lv_aload_n hx hb dX7_append_25 rfl (lv_at hl 0 rfl) ?_
    refine lv_dup hx hb dX7_append_26 rfl ?_
    refine va_get (D := G.1) (ci := 7) (v := .int (f0 1)) (C := RX7) (T := TX7) (N := 6) hx hb hts inlX7 hown hK hPD.1 0 rfl rfl 1 (by decide) (hts _ gw_331) (fun _ h9 => h9) rfl dX7_append_27 ?_
    refine lv_iconst (v := 1) hx hb dX7_append_30 (by decide) ?_
    refine lv_iadd hx hb dX7_append_31 ?_
    refine va_put (D := G.1) (ci := 7) (v := .int ((f0 1) + 1)) (ty := .int) (C := RX7) (T := TX7) (N := 6) hx hb hts inlX7 tyX7 tyX7_ok nmX7 hown hK hPD.1 hPD.2 hS 0 rfl rfl 1 (by decide) (hts _ gw_331) (fun _ h9 => h9) rfl (by decide +kernel) rfl rfl (Nat.le_of_ble_eq_true rfl) dX7_append_32 (fun H locs hP hD hS => ?_)
    obtain ⟨f0_3, ef0_3, h⟩ := lvl h
    have hPD : WD G DA (wX7 G h0 a0 f0_3 A0_2) H := by rw [ef0_3]; exact ⟨hP, hD⟩
    clear ef0_3 hP hD
    refine lv_iinc (v := l2 + (-8)) (lv' := [(2, .int (l2 + (-8))), (0, .ref h0), (1, .int p1)]) hx hb dX7_append_35 hl (k := 2) rfl rfl (by decide) rfl (fun ls hl => ?_)
    refine lv_goto (tgt := 3) hx hb dX7_append_38 (by decide) ?_
    exact hk3 A0_2 f0_3 (l2 + (-8)) h _ _ _ hPD hS (lv_sub hl [1, 2, 0] rfl)
set_option maxRecDepth 100000 in
set_option maxHeartbeats 4000000 in
theorem ww_f7_append_l3  (C0 : Cx cX7_append 3 none RX7 p s m args meth c G DA) {h0 : Nat} {a0 : Nat → Nat} {p1 : Int32}   {res : (Nat → Nat → Int32) × (Nat → Int32)}  : ∀ (n : Nat) (A0 : Nat → Nat → Int32) (f0 : Nat → Int32) (l2 : Int32), f7_append_l3 p1  n A0 f0 l2 = some res → ∀ (H : Heap) (locs : List Loc) (ls : Array Slot), WD G DA (wX7 G h0 a0 f0 A0) H → va_S DA s.heap H locs → lv_has ls 3 [(0, .ref h0), (1, .int p1), (2, .int l2)] → W p l e rmX7_append s m args below meth c H locs 0 0 (MQ below (QV G DA (wX7 G h0 a0 res.2 res.1)) args s 0 0 DA) (F0 m 3 ls []) := by
  intro n
  induction n with
  | zero => intro A0 f0 l2 h; cases h
  | succ n ih => intro A0 f0 l2 h; exact ww_f7_append_b3 C0  ih A0 f0 l2 h
set_option maxRecDepth 100000 in
set_option maxHeartbeats 4000000 in
theorem kt_X7_append (l : Launch) (G : Gp) (h0 : Nat) (a0 : Nat → Nat) (f0 : Nat → Int32) (A0 : Nat → Nat → Int32) (p1 : Int32) : ∀ {r : (Nat → Nat → Int32) × (Nat → Int32)}, f7_append f0 A0 p1 = some r → CtrV l yX7_append cX7_append 3 none rmX7_append G [.ref h0, .int p1] (wX7 G h0 a0 f0 A0) (wX7 G h0 a0 r.2 r.1) := by
  intro res h
  refine ctrV_of (cc := cX7_append) (maxL := 3) (ret := none) (by decide +kernel) rfl (Nat.le_of_ble_eq_true rfl) (fun p e s m below meth c DA C0 hP hD ls hl => ?_)
  have hPD : WD G DA (wX7 G h0 a0 f0 A0) s.heap := ⟨hP, hD⟩
  have hS : va_S DA s.heap s.heap [] := va_S.rf
  have hl : lv_has ls 3 [(0, .ref h0), (1, .int p1)] := hl
  obtain ⟨hx, hb, hml, hown, hts⟩ := C0.1
  have hK := C0.2.2.2.1
  unfold f7_append at h
  refine lv_bipush (v := 24) hx hb dX7_append_0 (by decide) ?_
  refine lv_istore_n (lv' := [(2, .int 24), (0, .ref h0), (1, .int p1)]) hx hb dX7_append_2 rfl hl (by decide) rfl (fun ls hl => ?_)
  exact ww_f7_append_l3 C0 NF A0 f0 24 h _ _ _ hPD hS (lv_sub hl [1, 2, 0] rfl)
abbrev rmX7_holds : Room := { frames := 0, cells := 0, slots := 0, locals := 0 }
set_option maxRecDepth 100000 in
set_option maxHeartbeats 4000000 in
theorem kt_X7_holds (l : Launch) (G : Gp) (h0 : Nat) (a0 : Nat → Nat) (f0 : Nat → Int32) (A0 : Nat → Nat → Int32) (p1 : Int32) : CtrI l yX7_holds cX7_holds 2 (some .boolean) rmX7_holds G [.ref h0, .int p1] (wX7 G h0 a0 f0 A0) (f7_holds f0 A0 p1) (wX7 G h0 a0 f0 A0) := by
  obtain ⟨res, h⟩ : ∃ res, f7_holds f0 A0 p1 = res := ⟨_, rfl⟩
  rw [h]
  refine ctrI_of (cc := cX7_holds) (maxL := 2) (ret := (some .boolean)) (by decide +kernel) rfl (Nat.le_of_ble_eq_true rfl) (fun p e s m below meth c DA C0 hP hD ls hl => ?_)
  have hPD : WD G DA (wX7 G h0 a0 f0 A0) s.heap := ⟨hP, hD⟩
  have hS : va_S DA s.heap s.heap [] := va_S.rf
  have hl : lv_has ls 2 [(0, .ref h0), (1, .int p1)] := hl
  obtain ⟨hx, hb, hml, hown, hts⟩ := C0.1
  have hK := C0.2.2.2.1
  unfold f7_holds at h
  refine lv_iload_n hx hb dX7_holds_0 rfl (lv_at hl 1 rfl) ?_
  refine lv_aload_n hx hb dX7_holds_1 rfl (lv_at hl 0 rfl) ?_
  refine va_get (D := G.1) (ci := 7) (v := .int (f0 1)) (C := RX7) (T := TX7) (N := 6) hx hb hts inlX7 hown hK hPD.1 0 rfl rfl 1 (by decide) (hts _ gw_331) (fun _ h9 => h9) rfl dX7_holds_2 ?_
  refine lv_icmp_gt (tgt := 12) hx hb dX7_holds_5 (by decide) (fun cc1 => ?_) (fun cc1 => ?_)
  · have h := (if_pos cc1).symm.trans h
    refine lv_iconst (v := 0) hx hb dX7_holds_12 (by decide) ?_
    subst h
    exact eZ C0 hPD.1 hPD.2 hS rfl rfl dX7_holds_13
  · have h := (if_neg cc1).symm.trans h
    refine lv_iconst (v := 1) hx hb dX7_holds_8 (by decide) ?_
    refine lv_goto (tgt := 13) hx hb dX7_holds_9 (by decide) ?_
    subst h
    exact eZ C0 hPD.1 hPD.2 hS rfl rfl dX7_holds_13
abbrev rmX7_open : Room := { frames := 0, cells := 0, slots := 0, locals := 0 }
set_option maxRecDepth 100000 in
set_option maxHeartbeats 4000000 in
theorem kt_X7_open (l : Launch) (G : Gp) (h0 : Nat) (a0 : Nat → Nat) (f0 : Nat → Int32) (A0 : Nat → Nat → Int32) (p1 : Int32) : CtrV l yX7_open cX7_open 2 none rmX7_open G [.ref h0, .int p1] (wX7 G h0 a0 f0 A0) (wX7 G h0 a0 (f7_open f0 A0 p1) A0) := by
  obtain ⟨res, h⟩ : ∃ res, f7_open f0 A0 p1 = res := ⟨_, rfl⟩
  rw [h]
  refine ctrV_of (cc := cX7_open) (maxL := 2) (ret := none) (by decide +kernel) rfl (Nat.le_of_ble_eq_true rfl) (fun p e s m below meth c DA C0 hP hD ls hl => ?_)
  have hPD : WD G DA (wX7 G h0 a0 f0 A0) s.heap := ⟨hP, hD⟩
  have hS : va_S DA s.heap s.heap [] := va_S.rf
  have hl : lv_has ls 2 [(0, .ref h0), (1, .int p1)] := hl
  obtain ⟨hx, hb, hml, hown, hts⟩ := C0.1
  have hK := C0.2.2.2.1
  unfold f7_open at h
  refine lv_aload_n hx hb dX7_open_0 rfl (lv_at hl 0 rfl) ?_
  refine lv_iconst (v := 0) hx hb dX7_open_1 (by decide) ?_
  refine va_put (D := G.1) (ci := 7) (v := .int 0) (ty := .int) (C := RX7) (T := TX7) (N := 6) hx hb hts inlX7 tyX7 tyX7_ok nmX7 hown hK hPD.1 hPD.2 hS 0 rfl rfl 1 (by decide) (hts _ gw_331) (fun _ h9 => h9) rfl (by decide +kernel) rfl rfl (Nat.le_of_ble_eq_true rfl) dX7_open_2 (fun H locs hP hD hS => ?_)
  obtain ⟨f0_1, ef0_1, h⟩ := lvl h
  have hPD : WD G DA (wX7 G h0 a0 f0_1 A0) H := by rw [ef0_1]; exact ⟨hP, hD⟩
  clear ef0_1 hP hD
  refine lv_aload_n hx hb dX7_open_5 rfl (lv_at hl 0 rfl) ?_
  refine lv_iload_n hx hb dX7_open_6 rfl (lv_at hl 1 rfl) ?_
  refine va_put (D := G.1) (ci := 7) (v := .int p1) (ty := .int) (C := RX7) (T := TX7) (N := 6) hx hb hts inlX7 tyX7 tyX7_ok nmX7 hown hK hPD.1 hPD.2 hS 0 rfl rfl 2 (by decide) (hts _ gw_11) (fun _ h9 => h9) rfl (by decide +kernel) rfl rfl (Nat.le_of_ble_eq_true rfl) dX7_open_7 (fun H locs hP hD hS => ?_)
  obtain ⟨f0_2, ef0_2, h⟩ := lvl h
  have hPD : WD G DA (wX7 G h0 a0 f0_2 A0) H := by rw [ef0_2]; exact ⟨hP, hD⟩
  clear ef0_2 hP hD
  refine lv_aload_n hx hb dX7_open_10 rfl (lv_at hl 0 rfl) ?_
  refine lv_iconst (v := 0) hx hb dX7_open_11 (by decide) ?_
  refine va_put (D := G.1) (ci := 7) (v := .int 0) (ty := .int) (C := RX7) (T := TX7) (N := 6) hx hb hts inlX7 tyX7 tyX7_ok nmX7 hown hK hPD.1 hPD.2 hS 0 rfl rfl 3 (by decide) (hts _ gw_10) (fun _ h9 => h9) rfl (by decide +kernel) rfl rfl (Nat.le_of_ble_eq_true rfl) dX7_open_12 (fun H locs hP hD hS => ?_)
  obtain ⟨f0_3, ef0_3, h⟩ := lvl h
  have hPD : WD G DA (wX7 G h0 a0 f0_3 A0) H := by rw [ef0_3]; exact ⟨hP, hD⟩
  clear ef0_3 hP hD
  refine lv_aload_n hx hb dX7_open_15 rfl (lv_at hl 0 rfl) ?_
  refine lv_iconst (v := 0) hx hb dX7_open_16 (by decide) ?_
  refine va_put (D := G.1) (ci := 7) (v := .int 0) (ty := .int) (C := RX7) (T := TX7) (N := 6) hx hb hts inlX7 tyX7 tyX7_ok nmX7 hown hK hPD.1 hPD.2 hS 0 rfl rfl 4 (by decide) (hts _ gw_9) (fun _ h9 => h9) rfl (by decide +kernel) rfl rfl (Nat.le_of_ble_eq_true rfl) dX7_open_17 (fun H locs hP hD hS => ?_)
  obtain ⟨f0_4, ef0_4, h⟩ := lvl h
  have hPD : WD G DA (wX7 G h0 a0 f0_4 A0) H := by rw [ef0_4]; exact ⟨hP, hD⟩
  clear ef0_4 hP hD
  refine lv_aload_n hx hb dX7_open_20 rfl (lv_at hl 0 rfl) ?_
  refine lv_iconst (v := 0) hx hb dX7_open_21 (by decide) ?_
  refine va_put (D := G.1) (ci := 7) (v := .int 0) (ty := .int) (C := RX7) (T := TX7) (N := 6) hx hb hts inlX7 tyX7 tyX7_ok nmX7 hown hK hPD.1 hPD.2 hS 0 rfl rfl 5 (by decide) (hts _ gw_13) (fun _ h9 => h9) rfl (by decide +kernel) rfl rfl (Nat.le_of_ble_eq_true rfl) dX7_open_22 (fun H locs hP hD hS => ?_)
  obtain ⟨f0_5, ef0_5, h⟩ := lvl h
  have hPD : WD G DA (wX7 G h0 a0 f0_5 A0) H := by rw [ef0_5]; exact ⟨hP, hD⟩
  clear ef0_5 hP hD
  subst h
  exact eV C0 hPD.1 hPD.2 hS dX7_open_25
abbrev rmX7_byteAt : Room := { frames := 1, cells := 0, slots := 0, locals := 21 }
set_option maxRecDepth 100000 in
set_option maxHeartbeats 4000000 in
theorem kt_X7_byteAt (l : Launch) (G : Gp) (h0 : Nat) (a0 : Nat → Nat) (f0 : Nat → Int32) (A0 : Nat → Nat → Int32) (p1 : Int32) : CtrI l yX7_byteAt cX7_byteAt 2 (some .int) rmX7_byteAt G [.ref h0, .int p1] (wX7 G h0 a0 f0 A0) (f7_byteAt f0 A0 p1) (wX7 G h0 a0 f0 A0) := by
  obtain ⟨res, h⟩ : ∃ res, f7_byteAt f0 A0 p1 = res := ⟨_, rfl⟩
  rw [h]
  refine ctrI_of (cc := cX7_byteAt) (maxL := 2) (ret := (some .int)) (by decide +kernel) rfl (Nat.le_of_ble_eq_true rfl) (fun p e s m below meth c DA C0 hP hD ls hl => ?_)
  have hPD : WD G DA (wX7 G h0 a0 f0 A0) s.heap := ⟨hP, hD⟩
  have hS : va_S DA s.heap s.heap [] := va_S.rf
  have hl : lv_has ls 2 [(0, .ref h0), (1, .int p1)] := hl
  obtain ⟨hx, hb, hml, hown, hts⟩ := C0.1
  have hK := C0.2.2.2.1
  unfold f7_byteAt at h
  refine lv_iload_n hx hb dX7_byteAt_0 rfl (lv_at hl 1 rfl) ?_
  refine lv_aload_n hx hb dX7_byteAt_1 rfl (lv_at hl 0 rfl) ?_
  refine va_get (D := G.1) (ci := 7) (v := .int (f0 2)) (C := RX7) (T := TX7) (N := 6) hx hb hts inlX7 hown hK hPD.1 0 rfl rfl 2 (by decide) (hts _ gw_11) (fun _ h9 => h9) rfl dX7_byteAt_2 ?_
  refine lv_icmp_ge (tgt := 19) hx hb dX7_byteAt_5 (by decide) (fun cc1 => ?_) (fun cc1 => ?_)
  · have h := (if_pos cc1).symm.trans h
    refine lv_iconst (v := 0) hx hb dX7_byteAt_19 (by decide) ?_
    subst h
    exact eI C0 hPD.1 hPD.2 hS rfl dX7_byteAt_20
  · have h := (if_neg cc1).symm.trans h
    refine lv_aload_n hx hb dX7_byteAt_8 rfl (lv_at hl 0 rfl) ?_
    refine va_get (D := G.1) (ci := 7) (v := .ref (a0 0)) (C := RX7) (T := TX7) (N := 6) hx hb hts inlX7 hown hK hPD.1 0 rfl rfl 0 (by decide) (hts _ gw_12) (fun _ h9 => h9) rfl dX7_byteAt_9 ?_
    refine lv_iload_n hx hb dX7_byteAt_12 rfl (lv_at hl 1 rfl) ?_
    refine kNI (As := [.ref (a0 0), .int p1]) (rest := []) C0 (kt_X9_at l G (a0 0) 260 (A0 0) p1 (by decide)) gi_U_X9_at (host := "IdleCrimes") (index := 35) (List.mem_of_getElem? (i := 11) rfl) gw_6 gw_7 (n := 2) rfl (by decide +kernel) ⟨rfl, rfl, Nat.le_of_ble_eq_true rfl, Nat.le_of_ble_eq_true rfl⟩ hPD hS [1] [0] [0, 1] (wr := pick (wX7 G h0 a0 f0 A0) [0]) (wN := (wX7 G h0 a0 f0 A0)) rfl rfl rfl rfl rfl hl.1 (Nat.le_of_ble_eq_true rfl) dX7_byteAt_13 (fun H locs hPD hS => ?_)
    refine lv_goto (tgt := 20) hx hb dX7_byteAt_16 (by decide) ?_
    subst h
    exact eI C0 hPD.1 hPD.2 hS rfl dX7_byteAt_20
abbrev rmX7_answer : Room := { frames := 0, cells := 0, slots := 0, locals := 0 }
set_option maxRecDepth 100000 in
set_option maxHeartbeats 4000000 in
theorem kt_X7_answer (l : Launch) (G : Gp) (h0 : Nat) (a0 : Nat → Nat) (f0 : Nat → Int32) (A0 : Nat → Nat → Int32) (p1 : Int32) : CtrI l yX7_answer cX7_answer 2 (some .int) rmX7_answer G [.ref h0, .int p1] (wX7 G h0 a0 f0 A0) (f7_answer f0 A0 p1) (wX7 G h0 a0 f0 A0) := by
  obtain ⟨res, h⟩ : ∃ res, f7_answer f0 A0 p1 = res := ⟨_, rfl⟩
  rw [h]
  refine ctrI_of (cc := cX7_answer) (maxL := 2) (ret := (some .int)) (by decide +kernel) rfl (Nat.le_of_ble_eq_true rfl) (fun p e s m below meth c DA C0 hP hD ls hl => ?_)
  have hPD : WD G DA (wX7 G h0 a0 f0 A0) s.heap := ⟨hP, hD⟩
  have hS : va_S DA s.heap s.heap [] := va_S.rf
  have hl : lv_has ls 2 [(0, .ref h0), (1, .int p1)] := hl
  obtain ⟨hx, hb, hml, hown, hts⟩ := C0.1
  have hK := C0.2.2.2.1
  unfold f7_answer at h
  refine lv_aload_n hx hb dX7_answer_0 rfl (lv_at hl 0 rfl) ?_
  refine va_get (D := G.1) (ci := 7) (v := .int (f0 4)) (C := RX7) (T := TX7) (N := 6) hx hb hts inlX7 hown hK hPD.1 0 rfl rfl 4 (by decide) (hts _ gw_9) (fun _ h9 => h9) rfl dX7_answer_1 ?_
  refine lv_if_ne (tgt := 11) hx hb dX7_answer_4 (by decide) (fun cc1 => ?_) (fun cc1 => ?_)
  · have h := (if_neg cc1).symm.trans h
    refine lv_sipush (v := (-1000)) hx hb dX7_answer_11 (by decide) ?_
    refine lv_aload_n hx hb dX7_answer_14 rfl (lv_at hl 0 rfl) ?_
    refine va_get (D := G.1) (ci := 7) (v := .int (f0 4)) (C := RX7) (T := TX7) (N := 6) hx hb hts inlX7 hown hK hPD.1 0 rfl rfl 4 (by decide) (hts _ gw_9) (fun _ h9 => h9) rfl dX7_answer_15 ?_
    refine lv_imul hx hb dX7_answer_18 ?_
    refine lv_aload_n hx hb dX7_answer_19 rfl (lv_at hl 0 rfl) ?_
    refine va_get (D := G.1) (ci := 7) (v := .int (f0 5)) (C := RX7) (T := TX7) (N := 6) hx hb hts inlX7 hown hK hPD.1 0 rfl rfl 5 (by decide) (hts _ gw_13) (fun _ h9 => h9) rfl dX7_answer_20 ?_
    refine lv_isub hx hb dX7_answer_23 ?_
    subst h
    exact eI C0 hPD.1 hPD.2 hS rfl dX7_answer_24
  · have h := (if_pos cc1).symm.trans h
    refine lv_iload_n hx hb dX7_answer_7 rfl (lv_at hl 1 rfl) ?_
    refine lv_goto (tgt := 24) hx hb dX7_answer_8 (by decide) ?_
    subst h
    exact eI C0 hPD.1 hPD.2 hS rfl dX7_answer_24
abbrev rmX8_add : Room := { frames := 1, cells := 0, slots := 0, locals := 22 }
set_option maxRecDepth 100000 in
set_option maxHeartbeats 4000000 in
theorem ww_f8_add_b35  (C0 : Cx cX8_add 4 none RX8 p s m args meth c G DA) {h0 : Nat} {a0 : Nat → Nat} {p1 : Int32} {p2 : Int32}   {res : (Nat → Nat → Int32) × (Nat → Int32)}  : ∀ (A0 : Nat → Nat → Int32) (f0 : Nat → Int32) (l3 : Int32), f8_add_b35 p1 p2  A0 f0 l3 = some res → ∀ (H : Heap) (locs : List Loc) (ls : Array Slot), WD G DA (wX8 G h0 a0 f0 A0) H → va_S DA s.heap H locs → lv_has ls 4 [(0, .ref h0), (1, .int p1), (2, .int p2), (3, .int l3)] → W p l e rmX8_add s m args below meth c H locs 0 0 (MQ below (QV G DA (wX8 G h0 a0 res.2 res.1)) args s 0 0 DA) (F0 m 35 ls []) := by
  obtain ⟨hx, hb, hml, hown, hts⟩ := C0.1
  have hK := C0.2.2.2.1
  intro A0 f0 l3 h _ _ _ hPD hS hl
  unfold f8_add_b35 at h
  refine lv_aload_n hx hb dX8_add_35 rfl (lv_at hl 0 rfl) ?_
  refine va_get (D := G.1) (ci := 8) (v := .ref (a0 0)) (C := RX8) (T := TX8) (N := 3) hx hb hts inlX8 hown hK hPD.1 0 rfl rfl 0 (by decide) (hts _ gw_332) (fun _ h9 => h9) rfl dX8_add_36 ?_
  refine lv_iload_n hx hb dX8_add_39 rfl (lv_at hl 1 rfl) ?_
  refine lv_iload_n hx hb dX8_add_40 rfl (lv_at hl 3 rfl) ?_
  refine lv_iload_n hx hb dX8_add_41 rfl (lv_at hl 2 rfl) ?_
  refine lv_bipush (v := 16) hx hb dX8_add_42 (by decide) ?_
  refine lv_ishl hx hb dX8_add_44 ?_
  refine lv_ior hx hb dX8_add_45 ?_
  obtain ⟨z_1, ez_1, h⟩ := lvl h
  have kc := kt_X9_put l G (a0 0) 65536 (A0 0) p1 (l3 ||| (shl p2 16)) (by decide)
  rw [← ez_1] at kc
  clear ez_1
  refine kNV (As := [.ref (a0 0), .int p1, .int (l3 ||| (shl p2 16))]) (rest := []) C0 (kc) gi_U_X9_put (host := "IdleCrimes") (index := 47) (List.mem_of_getElem? (i := 36) rfl) gw_6 gw_19 (n := 3) rfl (by decide +kernel) ⟨rfl, rfl, Nat.le_of_ble_eq_true rfl, Nat.le_of_ble_eq_true rfl⟩ hPD hS [1] [0, 2] [0, 2, 1] (wr := pick (wX8 G h0 a0 f0 A0) [0, 2]) (wN := (wX8 G h0 a0 f0 (updA A0 0 z_1))) rfl rfl rfl rfl rfl hl.1 (Nat.le_of_ble_eq_true rfl) dX8_add_46 (fun H locs hPD hS => ?_)
  obtain ⟨A0_2, eA0_2, h⟩ := lvl h
  have hPD : WD G DA (wX8 G h0 a0 f0 A0_2) H := by rw [eA0_2]; exact hPD
  clear eA0_2
  obtain rfl := Option.some.inj h
  exact eV C0 hPD.1 hPD.2 hS dX8_add_49
set_option maxRecDepth 100000 in
set_option maxHeartbeats 4000000 in
theorem kt_X8_add (l : Launch) (G : Gp) (h0 : Nat) (a0 : Nat → Nat) (f0 : Nat → Int32) (A0 : Nat → Nat → Int32) (p1 : Int32) (p2 : Int32) : ∀ {r : (Nat → Nat → Int32) × (Nat → Int32)}, f8_add f0 A0 p1 p2 = some r → CtrV l yX8_add cX8_add 4 none rmX8_add G [.ref h0, .int p1, .int p2] (wX8 G h0 a0 f0 A0) (wX8 G h0 a0 r.2 r.1) := by
  intro res h
  refine ctrV_of (cc := cX8_add) (maxL := 4) (ret := none) (by decide +kernel) rfl (Nat.le_of_ble_eq_true rfl) (fun p e s m below meth c DA C0 hP hD ls hl => ?_)
  have hPD : WD G DA (wX8 G h0 a0 f0 A0) s.heap := ⟨hP, hD⟩
  have hS : va_S DA s.heap s.heap [] := va_S.rf
  have hl : lv_has ls 4 [(0, .ref h0), (1, .int p1), (2, .int p2)] := hl
  obtain ⟨hx, hb, hml, hown, hts⟩ := C0.1
  have hK := C0.2.2.2.1
  unfold f8_add at h
  refine lv_aload_n hx hb dX8_add_0 rfl (lv_at hl 0 rfl) ?_
  refine va_get (D := G.1) (ci := 8) (v := .ref (a0 0)) (C := RX8) (T := TX8) (N := 3) hx hb hts inlX8 hown hK hPD.1 0 rfl rfl 0 (by decide) (hts _ gw_332) (fun _ h9 => h9) rfl dX8_add_1 ?_
  refine lv_iload_n hx hb dX8_add_4 rfl (lv_at hl 1 rfl) ?_
  refine kNI (As := [.ref (a0 0), .int p1]) (rest := []) C0 (kt_X9_at l G (a0 0) 65536 (A0 0) p1 (by decide)) gi_U_X9_at (host := "IdleCrimes") (index := 34) (List.mem_of_getElem? (i := 35) rfl) gw_6 gw_7 (n := 2) rfl (by decide +kernel) ⟨rfl, rfl, Nat.le_of_ble_eq_true rfl, Nat.le_of_ble_eq_true rfl⟩ hPD hS [1] [0, 2] [0, 2, 1] (wr := pick (wX8 G h0 a0 f0 A0) [0, 2]) (wN := (wX8 G h0 a0 f0 A0)) rfl rfl rfl rfl rfl hl.1 (Nat.le_of_ble_eq_true rfl) dX8_add_5 (fun H locs hPD hS => ?_)
  refine lv_istore_n (lv' := [(3, .int (f9_at 65536 (A0 0) p1)), (0, .ref h0), (1, .int p1), (2, .int p2)]) hx hb dX8_add_8 rfl hl (by decide) rfl (fun ls hl => ?_)
  refine lv_iload_n hx hb dX8_add_9 rfl (lv_at hl 0 rfl) ?_
  refine lv_if_ne (tgt := 35) hx hb dX8_add_10 (by decide) (fun cc1 => ?_) (fun cc1 => ?_)
  · have h := (if_neg cc1).symm.trans h
    exact ww_f8_add_b35 C0 A0 f0 (f9_at 65536 (A0 0) p1) h _ _ _ hPD hS (lv_sub hl [1, 2, 3, 0] rfl)
  · have h := (if_pos cc1).symm.trans h
    refine lv_aload_n hx hb dX8_add_13 rfl (lv_at hl 1 rfl) ?_
    refine va_get (D := G.1) (ci := 8) (v := .ref (a0 1)) (C := RX8) (T := TX8) (N := 3) hx hb hts inlX8 hown hK hPD.1 0 rfl rfl 1 (by decide) (hts _ gw_333) (fun _ h9 => h9) rfl dX8_add_14 ?_
    refine lv_aload_n hx hb dX8_add_17 rfl (lv_at hl 1 rfl) ?_
    refine va_get (D := G.1) (ci := 8) (v := .int (f0 2)) (C := RX8) (T := TX8) (N := 3) hx hb hts inlX8 hown hK hPD.1 0 rfl rfl 2 (by decide) (hts _ gw_334) (fun _ h9 => h9) rfl dX8_add_18 ?_
    refine lv_iload_n hx hb dX8_add_21 rfl (lv_at hl 2 rfl) ?_
    obtain ⟨z_3, ez_3, h⟩ := lvl h
    have kc := kt_X9_put l G (a0 1) 16384 (A0 1) (f0 2) p1 (by decide)
    rw [← ez_3] at kc
    clear ez_3
    refine kNV (As := [.ref (a0 1), .int (f0 2), .int p1]) (rest := []) C0 (kc) gi_U_X9_put (host := "IdleCrimes") (index := 47) (List.mem_of_getElem? (i := 36) rfl) gw_6 gw_19 (n := 3) rfl (by decide +kernel) ⟨rfl, rfl, Nat.le_of_ble_eq_true rfl, Nat.le_of_ble_eq_true rfl⟩ hPD hS [2] [0, 1] [0, 1, 2] (wr := pick (wX8 G h0 a0 f0 A0) [0, 1]) (wN := (wX8 G h0 a0 f0 (updA A0 1 z_3))) rfl rfl rfl rfl rfl hl.1 (Nat.le_of_ble_eq_true rfl) dX8_add_22 (fun H locs hPD hS => ?_)
    obtain ⟨A0_4, eA0_4, h⟩ := lvl h
    have hPD : WD G DA (wX8 G h0 a0 f0 A0_4) H := by rw [eA0_4]; exact hPD
    clear eA0_4
    refine lv_aload_n hx hb dX8_add_25 rfl (lv_at hl 1 rfl) ?_
    refine lv_dup hx hb dX8_add_26 rfl ?_
    refine va_get (D := G.1) (ci := 8) (v := .int (f0 2)) (C := RX8) (T := TX8) (N := 3) hx hb hts inlX8 hown hK hPD.1 0 rfl rfl 2 (by decide) (hts _ gw_334) (fun _ h9 => h9) rfl dX8_add_27 ?_
    refine lv_iconst (v := 1) hx hb dX8_add_30 (by decide) ?_
    refine lv_iadd hx hb dX8_add_31 ?_
    refine va_put (D := G.1) (ci := 8) (v := .int ((f0 2) + 1)) (ty := .int) (C := RX8) (T := TX8) (N := 3) hx hb hts inlX8 tyX8 tyX8_ok nmX8 hown hK hPD.1 hPD.2 hS 0 rfl rfl 2 (by decide) (hts _ gw_334) (fun _ h9 => h9) rfl (by decide +kernel) rfl rfl (Nat.le_of_ble_eq_true rfl) dX8_add_32 (fun H locs hP hD hS => ?_)
    obtain ⟨f0_5, ef0_5, h⟩ := lvl h
    have hPD : WD G DA (wX8 G h0 a0 f0_5 A0_4) H := by rw [ef0_5]; exact ⟨hP, hD⟩
    clear ef0_5 hP hD
    exact ww_f8_add_b35 C0 A0_4 f0_5 (f9_at 65536 (A0 0) p1) h _ _ _ hPD hS (lv_sub hl [1, 2, 3, 0] rfl)
end WALK
