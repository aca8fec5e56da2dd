section WALK
variable {p : Program} {l : Launch} {e : Env} {s : State} {m : MethodId} {args : Array Value} {below : List Frame} {meth : Method} {c : Code} {G : Gp} {DA : Nat → Prop}
set_option maxRecDepth 100000 in
set_option maxHeartbeats 4000000 in
theorem ww_f10_quiet_b73  (C0 : Cx cX10_quiet 5 (some .int) RX10 p s m args meth c G DA) {h0 : Nat} {a0 : Nat → Nat} {p1 : Int32}  {k31 : (Nat → Nat → Int32) → (Nat → Int32) → Int32 → Int32 → Int32 → Option (Int32 × (Nat → Nat → Int32) × (Nat → Int32))} {res : Int32 × (Nat → Nat → Int32) × (Nat → Int32)} (hk31 : ∀ (A0 : Nat → Nat → Int32) (f0 : Nat → Int32) (l2 : Int32) (l3 : Int32) (l4 : Int32), k31 A0 f0 l2 l3 l4 = some res → ∀ (H : Heap) (locs : List Loc) (ls : Array Slot), WD G DA (wX10 G h0 a0 f0 A0) H → va_S DA s.heap H locs → lv_has ls 5 [(0, .ref h0), (1, .int p1), (2, .int l2), (3, .int l3), (4, .int l4)] → W p l e rmX10_quiet s m args below meth c H locs 0 0 (MQ below (QI G DA res.1 (wX10 G h0 a0 res.2.2 res.2.1)) args s 0 0 DA) (F0 m 31 ls [])) : ∀ (A0 : Nat → Nat → Int32) (f0 : Nat → Int32) (l3 : Int32) (l4 : Int32) (s0 : Int32), f10_quiet_b73 p1 k31 A0 f0 l3 l4 s0 = some res → ∀ (H : Heap) (locs : List Loc) (ls : Array Slot), WD G DA (wX10 G h0 a0 f0 A0) H → va_S DA s.heap H locs → lv_has ls 5 [(0, .ref h0), (1, .int p1), (3, .int l3), (4, .int l4)] → W p l e rmX10_quiet s m args below meth c H locs 0 0 (MQ below (QI G DA res.1 (wX10 G h0 a0 res.2.2 res.2.1)) args s 0 0 DA) (F0 m 73 ls [.int s0]) := by
  obtain ⟨hx, hb, hml, hown, hts⟩ := C0.1
  have hK := C0.2.2.2.1
  intro A0 f0 l3 l4 s0 h _ _ _ hPD hS hl
  unfold f10_quiet_b73 at h
  refine lv_istore_n (lv' := [(2, .int s0), (0, .ref h0), (1, .int p1), (3, .int l3), (4, .int l4)]) hx hb dX10_quiet_73 rfl hl (by decide) rfl (fun ls hl => ?_)
  refine lv_iload_n hx hb dX10_quiet_74 rfl (lv_at hl 3 rfl) ?_
  refine lv_iload_n hx hb dX10_quiet_75 rfl (lv_at hl 0 rfl) ?_
  refine kSI (As := [.int l3, .int s0]) (rest := []) C0 (kt_X10_max l G  l3 s0) gi_S_X10_287_X10_max (n := 2) rfl (by decide +kernel) ⟨rfl, rfl, Nat.le_of_ble_eq_true rfl, Nat.le_of_ble_eq_true rfl⟩ hPD hS [] [0, 1, 2, 3, 4, 5, 6, 7, 8, 9, 10, 11, 12, 13, 14, 15, 16, 17, 18, 19, 20, 21, 22, 23, 24, 25, 26, 27, 28, 29, 30, 31, 32, 33] [0, 1, 2, 3, 4, 5, 6, 7, 8, 9, 10, 11, 12, 13, 14, 15, 16, 17, 18, 19, 20, 21, 22, 23, 24, 25, 26, 27, 28, 29, 30, 31, 32, 33] (wr := (wX10 G h0 a0 f0 A0)) (wN := (wX10 G h0 a0 f0 A0)) rfl rfl rfl rfl rfl hl.1 (Nat.le_of_ble_eq_true rfl) dX10_quiet_76 (fun H locs hPD hS => ?_)
  refine lv_istore_n (lv' := [(3, .int (f10_max l3 s0)), (2, .int s0), (0, .ref h0), (1, .int p1), (4, .int l4)]) hx hb dX10_quiet_79 rfl hl (by decide) rfl (fun ls hl => ?_)
  refine lv_iinc (v := l4 + 1) (lv' := [(4, .int (l4 + 1)), (3, .int (f10_max l3 s0)), (2, .int s0), (0, .ref h0), (1, .int p1)]) hx hb dX10_quiet_80 hl (k := 4) rfl rfl (by decide) rfl (fun ls hl => ?_)
  refine lv_goto (tgt := 31) hx hb dX10_quiet_83 (by decide) ?_
  exact hk31 A0 f0 s0 (f10_max l3 s0) (l4 + 1) h _ _ _ hPD hS (lv_sub hl [3, 4, 2, 1, 0] rfl)
set_option maxRecDepth 100000 in
set_option maxHeartbeats 4000000 in
theorem ww_f10_quiet_b31  (C0 : Cx cX10_quiet 5 (some .int) RX10 p s m args meth c G DA) {h0 : Nat} {a0 : Nat → Nat} {p1 : Int32}  {k31 : (Nat → Nat → Int32) → (Nat → Int32) → Int32 → Int32 → Int32 → Option (Int32 × (Nat → Nat → Int32) × (Nat → Int32))} {res : Int32 × (Nat → Nat → Int32) × (Nat → Int32)}  (hk31 : ∀ (A0 : Nat → Nat → Int32) (f0 : Nat → Int32) (l2 : Int32) (l3 : Int32) (l4 : Int32), k31 A0 f0 l2 l3 l4 = some res → ∀ (H : Heap) (locs : List Loc) (ls : Array Slot), WD G DA (wX10 G h0 a0 f0 A0) H → va_S DA s.heap H locs → lv_has ls 5 [(0, .ref h0), (1, .int p1), (2, .int l2), (3, .int l3), (4, .int l4)] → W p l e rmX10_quiet s m args below meth c H locs 0 0 (MQ below (QI G DA res.1 (wX10 G h0 a0 res.2.2 res.2.1)) args s 0 0 DA) (F0 m 31 ls [])) : ∀ (A0 : Nat → Nat → Int32) (f0 : Nat → Int32) (l2 : Int32) (l3 : Int32) (l4 : Int32), f10_quiet_b31 p1  k31 A0 f0 l2 l3 l4 = some res → ∀ (H : Heap) (locs : List Loc) (ls : Array Slot), WD G DA (wX10 G h0 a0 f0 A0) H → va_S DA s.heap H locs → lv_has ls 5 [(0, .ref h0), (1, .int p1), (2, .int l2), (3, .int l3), (4, .int l4)] → W p l e rmX10_quiet s m args below meth c H locs 0 0 (MQ below (QI G DA res.1 (wX10 G h0 a0 res.2.2 res.2.1)) args s 0 0 DA) (F0 m 31 ls []) := by
  obtain ⟨hx, hb, hml, hown, hts⟩ := C0.1
  have hK := C0.2.2.2.1
  intro A0 f0 l2 l3 l4 h _ _ _ hPD hS hl
  unfold f10_quiet_b31 at h
  refine lv_iload hx hb dX10_quiet_31 (lv_at hl 4 rfl) ?_
  refine lv_iload_n hx hb dX10_quiet_33 rfl (lv_at hl 1 rfl) ?_
  refine lv_icmp_ge (tgt := 86) hx hb dX10_quiet_34 (by decide) (fun cc1 => ?_) (fun cc1 => ?_)
  · have h := (if_pos cc1).symm.trans h
    exact ww_f10_quiet_b86 C0 A0 f0 l3 h _ _ _ hPD hS (lv_sub hl [0, 1, 3] rfl)
  · have h := (if_neg cc1).symm.trans h
    refine lv_aload_n hx hb dX10_quiet_37 rfl (lv_at hl 0 rfl) ?_
    refine va_get (D := G.1) (ci := 10) (v := .ref (a0 0)) (C := RX10) (T := TX10) (N := 52) hx hb hts inlX10 hown hK hPD.1 0 rfl rfl 0 (by decide) (hts _ gw_536) (fun _ h9 => h9) rfl dX10_quiet_38 ?_
    refine lv_bipush (v := 74) hx hb dX10_quiet_41 (by decide) ?_
    refine va_iald hx hb hK hPD.1 1 1 rfl rfl (vin rfl) dX10_quiet_43 ?_
    refine lv_sipush (v := 9999) hx hb dX10_quiet_44 (by decide) ?_
    refine lv_icmp_ge (tgt := 86) hx hb dX10_quiet_47 (by decide) (fun cc1 => ?_) (fun cc1 => ?_)
    · have h := (if_pos cc1).symm.trans h
      exact ww_f10_quiet_b86 C0 A0 f0 l3 h _ _ _ hPD hS (lv_sub hl [0, 1, 3] rfl)
    · have h := (if_neg cc1).symm.trans h
      refine lv_aload_n hx hb dX10_quiet_50 rfl (lv_at hl 0 rfl) ?_
      refine lv_iconst (v := 0) hx hb dX10_quiet_51 (by decide) ?_
      refine va_put (D := G.1) (ci := 10) (v := .int 0) (ty := .int) (C := RX10) (T := TX10) (N := 52) hx hb hts inlX10 tyX10 tyX10_ok nmX10 hown hK hPD.1 hPD.2 hS 0 rfl rfl 41 (by decide) (hts _ gw_740) (fun _ h9 => h9) rfl (by decide +kernel) rfl rfl (Nat.le_of_ble_eq_true rfl) dX10_quiet_52 (fun H locs hP hD hS => ?_)
      obtain ⟨f0_5, ef0_5, h⟩ := lvl h
      have hPD : WD G DA (wX10 G h0 a0 f0_5 A0) H := by rw [ef0_5]; exact ⟨hP, hD⟩
      clear ef0_5 hP hD
      refine lv_aload_n hx hb dX10_quiet_55 rfl (lv_at hl 0 rfl) ?_
      obtain ⟨q_6, hq_6, h⟩ := ob2 h
      refine kVV (As := []) (rest := []) C0 (kt_X10_hourGoes l G h0 a0 f0_5 A0 hq_6) gi_V_X10_323_X10_hourGoes (n := 0) rfl (by decide +kernel) rfl ⟨rfl, rfl, Nat.le_of_ble_eq_true rfl, Nat.le_of_ble_eq_true rfl⟩ hPD hS 0 10 rfl rfl rfl [0, 1, 2, 3, 4, 5, 6, 7, 8, 9, 10, 11, 12, 13, 14, 15, 16, 17, 18, 19, 20, 21, 22, 23, 24, 25, 26, 27, 28, 29, 30, 31, 32, 33] [] [0, 1, 2, 3, 4, 5, 6, 7, 8, 9, 10, 11, 12, 13, 14, 15, 16, 17, 18, 19, 20, 21, 22, 23, 24, 25, 26, 27, 28, 29, 30, 31, 32, 33] (wr := ([] : va_W)) (wN := (wX10 G h0 a0 q_6.2 q_6.1)) rfl rfl rfl rfl rfl hl.1 (Nat.le_of_ble_eq_true rfl) dX10_quiet_56 (fun H locs hPD hS => ?_)
      refine lv_aload_n hx hb dX10_quiet_59 rfl (lv_at hl 0 rfl) ?_
      refine va_get (D := G.1) (ci := 10) (v := .int (q_6.2 41)) (C := RX10) (T := TX10) (N := 52) hx hb hts inlX10 hown hK hPD.1 0 rfl rfl 41 (by decide) (hts _ gw_740) (fun _ h9 => h9) rfl dX10_quiet_60 ?_
      refine lv_if_le (tgt := 70) hx hb dX10_quiet_63 (by decide) (fun cc1 => ?_) (fun cc1 => ?_)
      · have h := (if_pos cc1).symm.trans h
        refine lv_iload_n hx hb dX10_quiet_70 rfl (lv_at hl 2 rfl) ?_
        refine lv_iconst (v := 1) hx hb dX10_quiet_71 (by decide) ?_
        refine lv_iadd hx hb dX10_quiet_72 ?_
        exact ww_f10_quiet_b73 C0 hk31 q_6.1 q_6.2 l3 l4 (l2 + 1) h _ _ _ hPD hS (lv_sub hl [0, 1, 3, 4] rfl)
      · have h := (if_neg cc1).symm.trans h
        refine lv_iconst (v := 0) hx hb dX10_quiet_66 (by decide) ?_
        refine lv_goto (tgt := 73) hx hb dX10_quiet_67 (by decide) ?_
        exact ww_f10_quiet_b73 C0 hk31 q_6.1 q_6.2 l3 l4 0 h _ _ _ hPD hS (lv_sub hl [0, 1, 3, 4] rfl)
set_option maxRecDepth 100000 in
set_option maxHeartbeats 4000000 in
theorem ww_f10_quiet_l31  (C0 : Cx cX10_quiet 5 (some .int) RX10 p s m args meth c G DA) {h0 : Nat} {a0 : Nat → Nat} {p1 : Int32}   {res : Int32 × (Nat → Nat → Int32) × (Nat → Int32)}  : ∀ (n : Nat) (A0 : Nat → Nat → Int32) (f0 : Nat → Int32) (l2 : Int32) (l3 : Int32) (l4 : Int32), f10_quiet_l31 p1  n A0 f0 l2 l3 l4 = some res → ∀ (H : Heap) (locs : List Loc) (ls : Array Slot), WD G DA (wX10 G h0 a0 f0 A0) H → va_S DA s.heap H locs → lv_has ls 5 [(0, .ref h0), (1, .int p1), (2, .int l2), (3, .int l3), (4, .int l4)] → W p l e rmX10_quiet s m args below meth c H locs 0 0 (MQ below (QI G DA res.1 (wX10 G h0 a0 res.2.2 res.2.1)) args s 0 0 DA) (F0 m 31 ls []) := by
  intro n
  induction n with
  | zero => intro A0 f0 l2 l3 l4 h; cases h
  | succ n ih => intro A0 f0 l2 l3 l4 h; exact ww_f10_quiet_b31 C0  ih A0 f0 l2 l3 l4 h
set_option maxRecDepth 100000 in
set_option maxHeartbeats 4000000 in
theorem kt_X10_quiet (l : Launch) (G : Gp) (h0 : Nat) (a0 : Nat → Nat) (f0 : Nat → Int32) (A0 : Nat → Nat → Int32) (p1 : Int32) : ∀ {r : Int32 × (Nat → Nat → Int32) × (Nat → Int32)}, f10_quiet f0 A0 p1 = some r → CtrI l yX10_quiet cX10_quiet 5 (some .int) rmX10_quiet G [.ref h0, .int p1] (wX10 G h0 a0 f0 A0) r.1 (wX10 G h0 a0 r.2.2 r.2.1) := by
  intro res h
  refine ctrI_of (cc := cX10_quiet) (maxL := 5) (ret := (some .int)) (by decide +kernel) rfl (Nat.le_of_ble_eq_true rfl) (fun p e s m below meth c DA C0 hP hD ls hl => ?_)
  have hPD : WD G DA (wX10 G h0 a0 f0 A0) s.heap := ⟨hP, hD⟩
  have hS : va_S DA s.heap s.heap [] := va_S.rf
  have hl : lv_has ls 5 [(0, .ref h0), (1, .int p1)] := hl
  obtain ⟨hx, hb, hml, hown, hts⟩ := C0.1
  have hK := C0.2.2.2.1
  unfold f10_quiet at h
  refine lv_iload_n hx hb dX10_quiet_0 rfl (lv_at hl 1 rfl) ?_
  refine lv_iconst (v := 1) hx hb dX10_quiet_1 (by decide) ?_
  refine lv_sipush (v := 240) hx hb dX10_quiet_2 (by decide) ?_
  refine kSI (As := [.int p1, .int 1, .int 240]) (rest := []) C0 (kt_X10_in l G  p1 1 240) gi_S_X10_112_X10_in (n := 3) rfl (by decide +kernel) ⟨rfl, rfl, Nat.le_of_ble_eq_true rfl, Nat.le_of_ble_eq_true rfl⟩ hPD hS [] [0, 1, 2, 3, 4, 5, 6, 7, 8, 9, 10, 11, 12, 13, 14, 15, 16, 17, 18, 19, 20, 21, 22, 23, 24, 25, 26, 27, 28, 29, 30, 31, 32, 33] [0, 1, 2, 3, 4, 5, 6, 7, 8, 9, 10, 11, 12, 13, 14, 15, 16, 17, 18, 19, 20, 21, 22, 23, 24, 25, 26, 27, 28, 29, 30, 31, 32, 33] (wr := (wX10 G h0 a0 f0 A0)) (wN := (wX10 G h0 a0 f0 A0)) rfl rfl rfl rfl rfl hl.1 (Nat.le_of_ble_eq_true rfl) dX10_quiet_5 (fun H locs hPD hS => ?_)
  refine lv_if_ne (tgt := 13) hx hb dX10_quiet_8 (by decide) (fun cc1 => ?_) (fun cc1 => ?_)
  · have h := (if_neg cc1).symm.trans h
    refine lv_aload_n hx hb dX10_quiet_13 rfl (lv_at hl 0 rfl) ?_
    refine va_get (D := G.1) (ci := 10) (v := .ref (a0 0)) (C := RX10) (T := TX10) (N := 52) hx hb hts inlX10 hown hK hPD.1 0 rfl rfl 0 (by decide) (hts _ gw_536) (fun _ h9 => h9) rfl dX10_quiet_14 ?_
    refine lv_aload_n hx hb dX10_quiet_17 rfl (lv_at hl 0 rfl) ?_
    refine va_get (D := G.1) (ci := 10) (v := .ref (a0 1)) (C := RX10) (T := TX10) (N := 52) hx hb hts inlX10 hown hK hPD.1 0 rfl rfl 1 (by decide) (hts _ gw_716) (fun _ h9 => h9) rfl dX10_quiet_18 ?_
    obtain ⟨q_1, hq_1, h⟩ := ob2 h
    refine kSV (As := [.ref (a0 0), .ref (a0 1)]) (rest := []) C0 (kt_X10_copies l G (a0 0) (a0 1) 76 (A0 0) 76 (A0 1) (by decide) (by decide) hq_1) gi_S_X10_290_X10_copies (n := 2) rfl (by decide +kernel) ⟨rfl, rfl, Nat.le_of_ble_eq_true rfl, Nat.le_of_ble_eq_true rfl⟩ hPD hS [1, 2] [0, 3, 4, 5, 6, 7, 8, 9, 10, 11, 12, 13, 14, 15, 16, 17, 18, 19, 20, 21, 22, 23, 24, 25, 26, 27, 28, 29, 30, 31, 32, 33] [0, 32, 33, 1, 2, 3, 4, 5, 6, 7, 8, 9, 10, 11, 12, 13, 14, 15, 16, 17, 18, 19, 20, 21, 22, 23, 24, 25, 26, 27, 28, 29, 30, 31] (wr := pick (wX10 G h0 a0 f0 A0) [0, 3, 4, 5, 6, 7, 8, 9, 10, 11, 12, 13, 14, 15, 16, 17, 18, 19, 20, 21, 22, 23, 24, 25, 26, 27, 28, 29, 30, 31, 32, 33]) (wN := (wX10 G h0 a0 f0 (updA A0 1 q_1))) rfl rfl rfl rfl rfl hl.1 (Nat.le_of_ble_eq_true rfl) dX10_quiet_21 (fun H locs hPD hS => ?_)
    obtain ⟨A0_2, eA0_2, h⟩ := lvl h
    have hPD : WD G DA (wX10 G h0 a0 f0 A0_2) H := by rw [eA0_2]; exact hPD
    clear eA0_2
    refine lv_iconst (v := 0) hx hb dX10_quiet_24 (by decide) ?_
    refine lv_istore_n (lv' := [(2, .int 0), (0, .ref h0), (1, .int p1)]) hx hb dX10_quiet_25 rfl hl (by decide) rfl (fun ls hl => ?_)
    refine lv_iconst (v := 0) hx hb dX10_quiet_26 (by decide) ?_
    refine lv_istore_n (lv' := [(3, .int 0), (2, .int 0), (0, .ref h0), (1, .int p1)]) hx hb dX10_quiet_27 rfl hl (by decide) rfl (fun ls hl => ?_)
    refine lv_iconst (v := 0) hx hb dX10_quiet_28 (by decide) ?_
    refine lv_istore (lv' := [(4, .int 0), (3, .int 0), (2, .int 0), (0, .ref h0), (1, .int p1)]) hx hb dX10_quiet_29 hl (by decide) rfl (fun ls hl => ?_)
    exact ww_f10_quiet_l31 C0 NF A0_2 f0 0 0 0 h _ _ _ hPD hS (lv_sub hl [3, 4, 2, 1, 0] rfl)
  · have h := (if_pos cc1).symm.trans h
    refine lv_iconst (v := (-1)) hx hb dX10_quiet_11 (by decide) ?_
    obtain rfl := Option.some.inj h
    exact eI C0 hPD.1 hPD.2 hS rfl dX10_quiet_12
abbrev rmX10_worst : Room := { frames := 2, cells := 0, slots := 0, locals := 43 }
set_option maxRecDepth 100000 in
set_option maxHeartbeats 4000000 in
theorem ww_f10_worst_b7  (C0 : Cx cX10_worst 4 (some .int) RX10 p s m args meth c G DA) {h0 : Nat} {a0 : Nat → Nat} {f0 : Nat → Int32} {A0 : Nat → Nat → Int32}  {k7 : Int32 → Int32 → Int32 → Option (Int32)} {res : Int32}  (hk7 : ∀ (l1 : Int32) (l2 : Int32) (l3 : Int32), k7 l1 l2 l3 = some res → ∀ (H : Heap) (locs : List Loc) (ls : Array Slot), WD G DA (wX10 G h0 a0 f0 A0) H → va_S DA s.heap H locs → lv_has ls 4 [(0, .ref h0), (1, .int l1), (2, .int l2), (3, .int l3)] → W p l e rmX10_worst s m args below meth c H locs 0 0 (MQ below (QI G DA res (wX10 G h0 a0 f0 A0)) args s 0 0 DA) (F0 m 7 ls [])) : ∀ (l1 : Int32) (l2 : Int32) (l3 : Int32), f10_worst_b7 f0 A0  k7 l1 l2 l3 = some res → ∀ (H : Heap) (locs : List Loc) (ls : Array Slot), WD G DA (wX10 G h0 a0 f0 A0) H → va_S DA s.heap H locs → lv_has ls 4 [(0, .ref h0), (1, .int l1), (2, .int l2), (3, .int l3)] → W p l e rmX10_worst s m args below meth c H locs 0 0 (MQ below (QI G DA res (wX10 G h0 a0 f0 A0)) args s 0 0 DA) (F0 m 7 ls []) := by
  obtain ⟨hx, hb, hml, hown, hts⟩ := C0.1
  have hK := C0.2.2.2.1
  intro l1 l2 l3 h _ _ _ hPD hS hl
  unfold f10_worst_b7 at h
  refine lv_iload_n hx hb dX10_worst_7 rfl (lv_at hl 3 rfl) ?_
  refine lv_bipush (v := 16) hx hb dX10_worst_8 (by decide) ?_
  refine lv_icmp_ge (tgt := 73) hx hb dX10_worst_10 (by decide) (fun cc1 => ?_) (fun cc1 => ?_)
  · have h := (if_pos cc1).symm.trans h
    refine lv_iload_n hx hb dX10_worst_73 rfl (lv_at hl 1 rfl) ?_
    obtain rfl := Option.some.inj h
    exact eI C0 hPD.1 hPD.2 hS rfl dX10_worst_74
  · have h := (if_neg cc1).symm.trans h
    refine lv_aload_n hx hb dX10_worst_13 rfl (lv_at hl 0 rfl) ?_
    refine lv_iload_n hx hb dX10_worst_14 rfl (lv_at hl 3 rfl) ?_
    refine kVI (As := [.int l3]) (rest := []) C0 (kt_X10_isTold l G h0 a0 f0 A0 l3) gi_V_X10_128_X10_isTold (n := 1) rfl (by decide +kernel) rfl ⟨rfl, rfl, Nat.le_of_ble_eq_true rfl, Nat.le_of_ble_eq_true rfl⟩ hPD hS 0 10 rfl rfl rfl [0, 1, 2, 3, 4, 5, 6, 7, 8, 9, 10, 11, 12, 13, 14, 15, 16, 17, 18, 19, 20, 21, 22, 23, 24, 25, 26, 27, 28, 29, 30, 31, 32, 33] [] [0, 1, 2, 3, 4, 5, 6, 7, 8, 9, 10, 11, 12, 13, 14, 15, 16, 17, 18, 19, 20, 21, 22, 23, 24, 25, 26, 27, 28, 29, 30, 31, 32, 33] (wr := ([] : va_W)) (wN := (wX10 G h0 a0 f0 A0)) rfl rfl rfl rfl rfl hl.1 (Nat.le_of_ble_eq_true rfl) dX10_worst_15 (fun H locs hPD hS => ?_)
    refine lv_if_eq (tgt := 67) hx hb dX10_worst_18 (by decide) (fun cc1 => ?_) (fun cc1 => ?_)
    · have h := (if_pos cc1).symm.trans h
      refine lv_iinc (v := l3 + 1) (lv' := [(3, .int (l3 + 1)), (0, .ref h0), (1, .int l1), (2, .int l2)]) hx hb dX10_worst_67 hl (k := 3) rfl rfl (by decide) rfl (fun ls hl => ?_)
      refine lv_goto (tgt := 7) hx hb dX10_worst_70 (by decide) ?_
      exact hk7 l1 l2 (l3 + 1) h _ _ _ hPD hS (lv_sub hl [1, 2, 3, 0] rfl)
    · have h := (if_neg cc1).symm.trans h
      refine lv_aload_n hx hb dX10_worst_21 rfl (lv_at hl 0 rfl) ?_
      refine va_get (D := G.1) (ci := 10) (v := .ref (a0 0)) (C := RX10) (T := TX10) (N := 52) hx hb hts inlX10 hown hK hPD.1 0 rfl rfl 0 (by decide) (hts _ gw_536) (fun _ h9 => h9) rfl dX10_worst_22 ?_
      refine lv_iconst (v := 0) hx hb dX10_worst_25 (by decide) ?_
      refine lv_iload_n hx hb dX10_worst_26 rfl (lv_at hl 3 rfl) ?_
      refine lv_iadd hx hb dX10_worst_27 ?_
      obtain ⟨hi_1, h⟩ := ob h
      refine va_iald hx hb hK hPD.1 1 1 rfl rfl hi_1 dX10_worst_28 ?_
      refine lv_aload_n hx hb dX10_worst_29 rfl (lv_at hl 0 rfl) ?_
      refine va_get (D := G.1) (ci := 10) (v := .ref (a0 0)) (C := RX10) (T := TX10) (N := 52) hx hb hts inlX10 hown hK hPD.1 0 rfl rfl 0 (by decide) (hts _ gw_536) (fun _ h9 => h9) rfl dX10_worst_30 ?_
      refine lv_bipush (v := 16) hx hb dX10_worst_33 (by decide) ?_
      refine lv_iload_n hx hb dX10_worst_35 rfl (lv_at hl 3 rfl) ?_
      refine lv_iadd hx hb dX10_worst_36 ?_
      obtain ⟨hi_2, h⟩ := ob h
      refine va_iald hx hb hK hPD.1 1 1 rfl rfl hi_2 dX10_worst_37 ?_
      refine lv_imul hx hb dX10_worst_38 ?_
      refine lv_iload_n hx hb dX10_worst_39 rfl (lv_at hl 2 rfl) ?_
      refine lv_icmp_gt (tgt := 46) hx hb dX10_worst_40 (by decide) (fun cc1 => ?_) (fun cc1 => ?_)
      · have h := (if_pos cc1).symm.trans h
        refine lv_aload_n hx hb dX10_worst_46 rfl (lv_at hl 0 rfl) ?_
        refine va_get (D := G.1) (ci := 10) (v := .ref (a0 0)) (C := RX10) (T := TX10) (N := 52) hx hb hts inlX10 hown hK hPD.1 0 rfl rfl 0 (by decide) (hts _ gw_536) (fun _ h9 => h9) rfl dX10_worst_47 ?_
        refine lv_iconst (v := 0) hx hb dX10_worst_50 (by decide) ?_
        refine lv_iload_n hx hb dX10_worst_51 rfl (lv_at hl 3 rfl) ?_
        refine lv_iadd hx hb dX10_worst_52 ?_
        obtain ⟨hi_3, h⟩ := ob h
        refine va_iald hx hb hK hPD.1 1 1 rfl rfl hi_3 dX10_worst_53 ?_
        refine lv_aload_n hx hb dX10_worst_54 rfl (lv_at hl 0 rfl) ?_
        refine va_get (D := G.1) (ci := 10) (v := .ref (a0 0)) (C := RX10) (T := TX10) (N := 52) hx hb hts inlX10 hown hK hPD.1 0 rfl rfl 0 (by decide) (hts _ gw_536) (fun _ h9 => h9) rfl dX10_worst_55 ?_
        refine lv_bipush (v := 16) hx hb dX10_worst_58 (by decide) ?_
        refine lv_iload_n hx hb dX10_worst_60 rfl (lv_at hl 3 rfl) ?_
        refine lv_iadd hx hb dX10_worst_61 ?_
        obtain ⟨hi_4, h⟩ := ob h
        refine va_iald hx hb hK hPD.1 1 1 rfl rfl hi_4 dX10_worst_62 ?_
        refine lv_imul hx hb dX10_worst_63 ?_
        refine lv_istore_n (lv' := [(2, .int ((gx (A0 0) (0 + l3)) * (gx (A0 0) (16 + l3)))), (0, .ref h0), (1, .int l1), (3, .int l3)]) hx hb dX10_worst_64 rfl hl (by decide) rfl (fun ls hl => ?_)
        refine lv_iload_n hx hb dX10_worst_65 rfl (lv_at hl 3 rfl) ?_
        refine lv_istore_n (lv' := [(1, .int l3), (2, .int ((gx (A0 0) (0 + l3)) * (gx (A0 0) (16 + l3)))), (0, .ref h0), (3, .int l3)]) hx hb dX10_worst_66 rfl hl (by decide) rfl (fun ls hl => ?_)
        refine lv_iinc (v := l3 + 1) (lv' := [(3, .int (l3 + 1)), (1, .int l3), (2, .int ((gx (A0 0) (0 + l3)) * (gx (A0 0) (16 + l3)))), (0, .ref h0)]) hx hb dX10_worst_67 hl (k := 3) rfl rfl (by decide) rfl (fun ls hl => ?_)
        refine lv_goto (tgt := 7) hx hb dX10_worst_70 (by decide) ?_
        exact hk7 l3 ((gx (A0 0) (0 + l3)) * (gx (A0 0) (16 + l3))) (l3 + 1) h _ _ _ hPD hS (lv_sub hl [3, 1, 2, 0] rfl)
      · have h := (if_neg cc1).symm.trans h
        refine lv_goto (tgt := 67) hx hb dX10_worst_43 (by decide) ?_
        refine lv_iinc (v := l3 + 1) (lv' := [(3, .int (l3 + 1)), (0, .ref h0), (1, .int l1), (2, .int l2)]) hx hb dX10_worst_67 hl (k := 3) rfl rfl (by decide) rfl (fun ls hl => ?_)
        refine lv_goto (tgt := 7) hx hb dX10_worst_70 (by decide) ?_
        exact hk7 l1 l2 (l3 + 1) h _ _ _ hPD hS (lv_sub hl [1, 2, 3, 0] rfl)
set_option maxRecDepth 100000 in
set_option maxHeartbeats 4000000 in
theorem ww_f10_worst_l7  (C0 : Cx cX10_worst 4 (some .int) RX10 p s m args meth c G DA) {h0 : Nat} {a0 : Nat → Nat} {f0 : Nat → Int32} {A0 : Nat → Nat → Int32}   {res : Int32}  : ∀ (n : Nat) (l1 : Int32) (l2 : Int32) (l3 : Int32), f10_worst_l7 f0 A0  n l1 l2 l3 = some res → ∀ (H : Heap) (locs : List Loc) (ls : Array Slot), WD G DA (wX10 G h0 a0 f0 A0) H → va_S DA s.heap H locs → lv_has ls 4 [(0, .ref h0), (1, .int l1), (2, .int l2), (3, .int l3)] → W p l e rmX10_worst s m args below meth c H locs 0 0 (MQ below (QI G DA res (wX10 G h0 a0 f0 A0)) args s 0 0 DA) (F0 m 7 ls []) := by
  intro n
  induction n with
  | zero => intro l1 l2 l3 h; cases h
  | succ n ih => intro l1 l2 l3 h; exact ww_f10_worst_b7 C0  ih l1 l2 l3 h
set_option maxRecDepth 100000 in
set_option maxHeartbeats 4000000 in
theorem kt_X10_worst (l : Launch) (G : Gp) (h0 : Nat) (a0 : Nat → Nat) (f0 : Nat → Int32) (A0 : Nat → Nat → Int32) : ∀ {r : Int32}, f10_worst f0 A0 = some r → CtrI l yX10_worst cX10_worst 4 (some .int) rmX10_worst G [.ref h0] (wX10 G h0 a0 f0 A0) r (wX10 G h0 a0 f0 A0) := by
  intro res h
  refine ctrI_of (cc := cX10_worst) (maxL := 4) (ret := (some .int)) (by decide +kernel) rfl (Nat.le_of_ble_eq_true rfl) (fun p e s m below meth c DA C0 hP hD ls hl => ?_)
  have hPD : WD G DA (wX10 G h0 a0 f0 A0) s.heap := ⟨hP, hD⟩
  have hS : va_S DA s.heap s.heap [] := va_S.rf
  have hl : lv_has ls 4 [(0, .ref h0)] := hl
  obtain ⟨hx, hb, hml, hown, hts⟩ := C0.1
  have hK := C0.2.2.2.1
  unfold f10_worst at h
  refine lv_bipush (v := (-2)) hx hb dX10_worst_0 (by decide) ?_
  refine lv_istore_n (lv' := [(1, .int (-2)), (0, .ref h0)]) hx hb dX10_worst_2 rfl hl (by decide) rfl (fun ls hl => ?_)
  refine lv_iconst (v := (-1)) hx hb dX10_worst_3 (by decide) ?_
  refine lv_istore_n (lv' := [(2, .int (-1)), (1, .int (-2)), (0, .ref h0)]) hx hb dX10_worst_4 rfl hl (by decide) rfl (fun ls hl => ?_)
  refine lv_iconst (v := 0) hx hb dX10_worst_5 (by decide) ?_
  refine lv_istore_n (lv' := [(3, .int 0), (2, .int (-1)), (1, .int (-2)), (0, .ref h0)]) hx hb dX10_worst_6 rfl hl (by decide) rfl (fun ls hl => ?_)
  exact ww_f10_worst_l7 C0 NF (-2) (-1) 0 h _ _ _ hPD hS (lv_sub hl [3, 2, 1, 0] rfl)
abbrev rmX10_watchedBy : Room := { frames := 1, cells := 0, slots := 0, locals := 21 }
set_option maxRecDepth 100000 in
set_option maxHeartbeats 4000000 in
theorem ww_f10_watchedBy_b4  (C0 : Cx cX10_watchedBy 4 (some .int) RX10 p s m args meth c G DA) {h0 : Nat} {a0 : Nat → Nat} {f0 : Nat → Int32} {A0 : Nat → Nat → Int32} {p1 : Int32}  {k4 : Int32 → Int32 → Option (Int32)} {res : Int32}  (hk4 : ∀ (l2 : Int32) (l3 : Int32), k4 l2 l3 = some res → ∀ (H : Heap) (locs : List Loc) (ls : Array Slot), WD G DA (wX10 G h0 a0 f0 A0) H → va_S DA s.heap H locs → lv_has ls 4 [(0, .ref h0), (1, .int p1), (2, .int l2), (3, .int l3)] → W p l e rmX10_watchedBy s m args below meth c H locs 0 0 (MQ below (QI G DA res (wX10 G h0 a0 f0 A0)) args s 0 0 DA) (F0 m 4 ls [])) : ∀ (l2 : Int32) (l3 : Int32), f10_watchedBy_b4 f0 A0 p1  k4 l2 l3 = some res → ∀ (H : Heap) (locs : List Loc) (ls : Array Slot), WD G DA (wX10 G h0 a0 f0 A0) H → va_S DA s.heap H locs → lv_has ls 4 [(0, .ref h0), (1, .int p1), (2, .int l2), (3, .int l3)] → W p l e rmX10_watchedBy s m args below meth c H locs 0 0 (MQ below (QI G DA res (wX10 G h0 a0 f0 A0)) args s 0 0 DA) (F0 m 4 ls []) := by
  obtain ⟨hx, hb, hml, hown, hts⟩ := C0.1
  have hK := C0.2.2.2.1
  intro l2 l3 h _ _ _ hPD hS hl
  unfold f10_watchedBy_b4 at h
  refine lv_iload_n hx hb dX10_watchedBy_4 rfl (lv_at hl 3 rfl) ?_
  refine lv_bipush (v := 16) hx hb dX10_watchedBy_5 (by decide) ?_
  refine lv_icmp_ge (tgt := 33) hx hb dX10_watchedBy_7 (by decide) (fun cc1 => ?_) (fun cc1 => ?_)
  · have h := (if_pos cc1).symm.trans h
    refine lv_iload_n hx hb dX10_watchedBy_33 rfl (lv_at hl 2 rfl) ?_
    obtain rfl := Option.some.inj h
    exact eI C0 hPD.1 hPD.2 hS rfl dX10_watchedBy_34
  · have h := (if_neg cc1).symm.trans h
    refine lv_iload_n hx hb dX10_watchedBy_10 rfl (lv_at hl 1 rfl) ?_
    refine lv_iload_n hx hb dX10_watchedBy_11 rfl (lv_at hl 3 rfl) ?_
    refine kSI (As := [.int p1, .int l3]) (rest := []) C0 (kt_X10_has l G  p1 l3) gi_S_X10_120_X10_has (n := 2) rfl (by decide +kernel) ⟨rfl, rfl, Nat.le_of_ble_eq_true rfl, Nat.le_of_ble_eq_true rfl⟩ hPD hS [] [0, 1, 2, 3, 4, 5, 6, 7, 8, 9, 10, 11, 12, 13, 14, 15, 16, 17, 18, 19, 20, 21, 22, 23, 24, 25, 26, 27, 28, 29, 30, 31, 32, 33] [0, 1, 2, 3, 4, 5, 6, 7, 8, 9, 10, 11, 12, 13, 14, 15, 16, 17, 18, 19, 20, 21, 22, 23, 24, 25, 26, 27, 28, 29, 30, 31, 32, 33] (wr := (wX10 G h0 a0 f0 A0)) (wN := (wX10 G h0 a0 f0 A0)) rfl rfl rfl rfl rfl hl.1 (Nat.le_of_ble_eq_true rfl) dX10_watchedBy_12 (fun H locs hPD hS => ?_)
    refine lv_if_eq (tgt := 27) hx hb dX10_watchedBy_15 (by decide) (fun cc1 => ?_) (fun cc1 => ?_)
    · have h := (if_pos cc1).symm.trans h
      refine lv_iinc (v := l3 + 1) (lv' := [(3, .int (l3 + 1)), (0, .ref h0), (1, .int p1), (2, .int l2)]) hx hb dX10_watchedBy_27 hl (k := 3) rfl rfl (by decide) rfl (fun ls hl => ?_)
      refine lv_goto (tgt := 4) hx hb dX10_watchedBy_30 (by decide) ?_
      exact hk4 l2 (l3 + 1) h _ _ _ hPD hS (lv_sub hl [1, 2, 3, 0] rfl)
    · have h := (if_neg cc1).symm.trans h
      refine lv_iload_n hx hb dX10_watchedBy_18 rfl (lv_at hl 2 rfl) ?_
      refine lv_aload_n hx hb dX10_watchedBy_19 rfl (lv_at hl 0 rfl) ?_
      refine va_get (D := G.1) (ci := 10) (v := .ref (a0 3)) (C := RX10) (T := TX10) (N := 52) hx hb hts inlX10 hown hK hPD.1 0 rfl rfl 3 (by decide) (hts _ gw_663) (fun _ h9 => h9) rfl dX10_watchedBy_20 ?_
      refine lv_iload_n hx hb dX10_watchedBy_23 rfl (lv_at hl 3 rfl) ?_
      obtain ⟨hi_1, h⟩ := ob h
      refine va_iald hx hb hK hPD.1 4 1 rfl rfl hi_1 dX10_watchedBy_24 ?_
      refine lv_ior hx hb dX10_watchedBy_25 ?_
      refine lv_istore_n (lv' := [(2, .int (l2 ||| (gx (A0 3) l3))), (0, .ref h0), (1, .int p1), (3, .int l3)]) hx hb dX10_watchedBy_26 rfl hl (by decide) rfl (fun ls hl => ?_)
      refine lv_iinc (v := l3 + 1) (lv' := [(3, .int (l3 + 1)), (2, .int (l2 ||| (gx (A0 3) l3))), (0, .ref h0), (1, .int p1)]) hx hb dX10_watchedBy_27 hl (k := 3) rfl rfl (by decide) rfl (fun ls hl => ?_)
      refine lv_goto (tgt := 4) hx hb dX10_watchedBy_30 (by decide) ?_
      exact hk4 (l2 ||| (gx (A0 3) l3)) (l3 + 1) h _ _ _ hPD hS (lv_sub hl [2, 3, 1, 0] rfl)
set_option maxRecDepth 100000 in
set_option maxHeartbeats 4000000 in
theorem ww_f10_watchedBy_l4  (C0 : Cx cX10_watchedBy 4 (some .int) RX10 p s m args meth c G DA) {h0 : Nat} {a0 : Nat → Nat} {f0 : Nat → Int32} {A0 : Nat → Nat → Int32} {p1 : Int32}   {res : Int32}  : ∀ (n : Nat) (l2 : Int32) (l3 : Int32), f10_watchedBy_l4 f0 A0 p1  n l2 l3 = some res → ∀ (H : Heap) (locs : List Loc) (ls : Array Slot), WD G DA (wX10 G h0 a0 f0 A0) H → va_S DA s.heap H locs → lv_has ls 4 [(0, .ref h0), (1, .int p1), (2, .int l2), (3, .int l3)] → W p l e rmX10_watchedBy s m args below meth c H locs 0 0 (MQ below (QI G DA res (wX10 G h0 a0 f0 A0)) args s 0 0 DA) (F0 m 4 ls []) := by
  intro n
  induction n with
  | zero => intro l2 l3 h; cases h
  | succ n ih => intro l2 l3 h; exact ww_f10_watchedBy_b4 C0  ih l2 l3 h
set_option maxRecDepth 100000 in
set_option maxHeartbeats 4000000 in
theorem kt_X10_watchedBy (l : Launch) (G : Gp) (h0 : Nat) (a0 : Nat → Nat) (f0 : Nat → Int32) (A0 : Nat → Nat → Int32) (p1 : Int32) : ∀ {r : Int32}, f10_watchedBy f0 A0 p1 = some r → CtrI l yX10_watchedBy cX10_watchedBy 4 (some .int) rmX10_watchedBy G [.ref h0, .int p1] (wX10 G h0 a0 f0 A0) r (wX10 G h0 a0 f0 A0) := by
  intro res h
  refine ctrI_of (cc := cX10_watchedBy) (maxL := 4) (ret := (some .int)) (by decide +kernel) rfl (Nat.le_of_ble_eq_true rfl) (fun p e s m below meth c DA C0 hP hD ls hl => ?_)
  have hPD : WD G DA (wX10 G h0 a0 f0 A0) s.heap := ⟨hP, hD⟩
  have hS : va_S DA s.heap s.heap [] := va_S.rf
  have hl : lv_has ls 4 [(0, .ref h0), (1, .int p1)] := hl
  obtain ⟨hx, hb, hml, hown, hts⟩ := C0.1
  have hK := C0.2.2.2.1
  unfold f10_watchedBy at h
  refine lv_iload_n hx hb dX10_watchedBy_0 rfl (lv_at hl 1 rfl) ?_
  refine lv_istore_n (lv' := [(2, .int p1), (0, .ref h0), (1, .int p1)]) hx hb dX10_watchedBy_1 rfl hl (by decide) rfl (fun ls hl => ?_)
  refine lv_iconst (v := 0) hx hb dX10_watchedBy_2 (by decide) ?_
  refine lv_istore_n (lv' := [(3, .int 0), (2, .int p1), (0, .ref h0), (1, .int p1)]) hx hb dX10_watchedBy_3 rfl hl (by decide) rfl (fun ls hl => ?_)
  exact ww_f10_watchedBy_l4 C0 NF p1 0 h _ _ _ hPD hS (lv_sub hl [2, 3, 1, 0] rfl)
abbrev rmX10_posts : Room := { frames := 2, cells := 0, slots := 0, locals := 44 }
set_option maxRecDepth 100000 in
set_option maxHeartbeats 4000000 in
theorem ww_f10_posts_b67  (C0 : Cx cX10_posts 4 (some .int) RX10 p s m args meth c G DA) {h0 : Nat} {a0 : Nat → Nat} {f0 : Nat → Int32} {A0 : Nat → Nat → Int32} {p1 : Int32}  {k18 : Int32 → Int32 → Option (Int32)} {res : Int32} (hk18 : ∀ (l2 : Int32) (l3 : Int32), k18 l2 l3 = some res → ∀ (H : Heap) (locs : List Loc) (ls : Array Slot), WD G DA (wX10 G h0 a0 f0 A0) H → va_S DA s.heap H locs → lv_has ls 4 [(0, .ref h0), (1, .int p1), (2, .int l2), (3, .int l3)] → W p l e rmX10_posts s m args below meth c H locs 0 0 (MQ below (QI G DA res (wX10 G h0 a0 f0 A0)) args s 0 0 DA) (F0 m 18 ls [])) : ∀ (l2 : Int32) (l3 : Int32), f10_posts_b67 f0 A0 p1 k18 l2 l3 = some res → ∀ (H : Heap) (locs : List Loc) (ls : Array Slot), WD G DA (wX10 G h0 a0 f0 A0) H → va_S DA s.heap H locs → lv_has ls 4 [(0, .ref h0), (1, .int p1), (2, .int l2), (3, .int l3)] → W p l e rmX10_posts s m args below meth c H locs 0 0 (MQ below (QI G DA res (wX10 G h0 a0 f0 A0)) args s 0 0 DA) (F0 m 67 ls []) := by
  obtain ⟨hx, hb, hml, hown, hts⟩ := C0.1
  have hK := C0.2.2.2.1
  intro l2 l3 h _ _ _ hPD hS hl
  unfold f10_posts_b67 at h
  refine lv_aload_n hx hb dX10_posts_67 rfl (lv_at hl 0 rfl) ?_
  refine va_get (D := G.1) (ci := 10) (v := .int (f0 6)) (C := RX10) (T := TX10) (N := 52) hx hb hts inlX10 hown hK hPD.1 0 rfl rfl 6 (by decide) (hts _ gw_532) (fun _ h9 => h9) rfl dX10_posts_68 ?_
  refine lv_aload_n hx hb dX10_posts_71 rfl (lv_at hl 0 rfl) ?_
  refine lv_iload_n hx hb dX10_posts_72 rfl (lv_at hl 3 rfl) ?_
  obtain ⟨q_6, hq_6, h⟩ := ob2 h
  refine kVI (As := [.int l3]) (rest := [.int (f0 6)]) C0 (kt_X10_watchedBy l G h0 a0 f0 A0 l3 hq_6) gi_V_X10_335_X10_watchedBy (n := 1) rfl (by decide +kernel) rfl ⟨rfl, rfl, Nat.le_of_ble_eq_true rfl, Nat.le_of_ble_eq_true rfl⟩ hPD hS 0 10 rfl rfl rfl [0, 1, 2, 3, 4, 5, 6, 7, 8, 9, 10, 11, 12, 13, 14, 15, 16, 17, 18, 19, 20, 21, 22, 23, 24, 25, 26, 27, 28, 29, 30, 31, 32, 33] [] [0, 1, 2, 3, 4, 5, 6, 7, 8, 9, 10, 11, 12, 13, 14, 15, 16, 17, 18, 19, 20, 21, 22, 23, 24, 25, 26, 27, 28, 29, 30, 31, 32, 33] (wr := ([] : va_W)) (wN := (wX10 G h0 a0 f0 A0)) rfl rfl rfl rfl rfl hl.1 (Nat.le_of_ble_eq_true rfl) dX10_posts_73 (fun H locs hPD hS => ?_)
  refine lv_iconst (v := (-1)) hx hb dX10_posts_76 (by decide) ?_
  refine lv_ixor hx hb dX10_posts_77 ?_
  refine lv_iand hx hb dX10_posts_78 ?_
  refine lv_if_ne (tgt := 84) hx hb dX10_posts_79 (by decide) (fun cc1 => ?_) (fun cc1 => ?_)
  · have h := (if_neg cc1).symm.trans h
    refine lv_iinc (v := l3 + 1) (lv' := [(3, .int (l3 + 1)), (0, .ref h0), (1, .int p1), (2, .int l2)]) hx hb dX10_posts_84 hl (k := 3) rfl rfl (by decide) rfl (fun ls hl => ?_)
    refine lv_goto (tgt := 18) hx hb dX10_posts_87 (by decide) ?_
    exact hk18 l2 (l3 + 1) h _ _ _ hPD hS (lv_sub hl [1, 2, 3, 0] rfl)
  · have h := (if_pos cc1).symm.trans h
    refine lv_iload_n hx hb dX10_posts_82 rfl (lv_at hl 3 rfl) ?_
    refine lv_istore_n (lv' := [(2, .int l3), (0, .ref h0), (1, .int p1), (3, .int l3)]) hx hb dX10_posts_83 rfl hl (by decide) rfl (fun ls hl => ?_)
    refine lv_iinc (v := l3 + 1) (lv' := [(3, .int (l3 + 1)), (2, .int l3), (0, .ref h0), (1, .int p1)]) hx hb dX10_posts_84 hl (k := 3) rfl rfl (by decide) rfl (fun ls hl => ?_)
    refine lv_goto (tgt := 18) hx hb dX10_posts_87 (by decide) ?_
    exact hk18 l3 (l3 + 1) h _ _ _ hPD hS (lv_sub hl [2, 3, 1, 0] rfl)
set_option maxRecDepth 100000 in
set_option maxHeartbeats 4000000 in
theorem ww_f10_posts_b18  (C0 : Cx cX10_posts 4 (some .int) RX10 p s m args meth c G DA) {h0 : Nat} {a0 : Nat → Nat} {f0 : Nat → Int32} {A0 : Nat → Nat → Int32} {p1 : Int32}  {k18 : Int32 → Int32 → Option (Int32)} {res : Int32}  (hk18 : ∀ (l2 : Int32) (l3 : Int32), k18 l2 l3 = some res → ∀ (H : Heap) (locs : List Loc) (ls : Array Slot), WD G DA (wX10 G h0 a0 f0 A0) H → va_S DA s.heap H locs → lv_has ls 4 [(0, .ref h0), (1, .int p1), (2, .int l2), (3, .int l3)] → W p l e rmX10_posts s m args below meth c H locs 0 0 (MQ below (QI G DA res (wX10 G h0 a0 f0 A0)) args s 0 0 DA) (F0 m 18 ls [])) : ∀ (l2 : Int32) (l3 : Int32), f10_posts_b18 f0 A0 p1  k18 l2 l3 = some res → ∀ (H : Heap) (locs : List Loc) (ls : Array Slot), WD G DA (wX10 G h0 a0 f0 A0) H → va_S DA s.heap H locs → lv_has ls 4 [(0, .ref h0), (1, .int p1), (2, .int l2), (3, .int l3)] → W p l e rmX10_posts s m args below meth c H locs 0 0 (MQ below (QI G DA res (wX10 G h0 a0 f0 A0)) args s 0 0 DA) (F0 m 18 ls []) := by
  obtain ⟨hx, hb, hml, hown, hts⟩ := C0.1
  have hK := C0.2.2.2.1
  intro l2 l3 h _ _ _ hPD hS hl
  unfold f10_posts_b18 at h
  refine lv_iload_n hx hb dX10_posts_18 rfl (lv_at hl 3 rfl) ?_
  refine lv_aload_n hx hb dX10_posts_19 rfl (lv_at hl 0 rfl) ?_
  refine va_get (D := G.1) (ci := 10) (v := .int (f0 6)) (C := RX10) (T := TX10) (N := 52) hx hb hts inlX10 hown hK hPD.1 0 rfl rfl 6 (by decide) (hts _ gw_532) (fun _ h9 => h9) rfl dX10_posts_20 ?_
  refine lv_icmp_gt (tgt := 90) hx hb dX10_posts_23 (by decide) (fun cc1 => ?_) (fun cc1 => ?_)
  · have h := (if_pos cc1).symm.trans h
    refine lv_iload_n hx hb dX10_posts_90 rfl (lv_at hl 1 rfl) ?_
    refine lv_if_ne (tgt := 101) hx hb dX10_posts_91 (by decide) (fun cc1 => ?_) (fun cc1 => ?_)
    · have h := (if_neg cc1).symm.trans h
      refine lv_iload_n hx hb dX10_posts_101 rfl (lv_at hl 2 rfl) ?_
      obtain rfl := Option.some.inj h
      exact eI C0 hPD.1 hPD.2 hS rfl dX10_posts_102
    · have h := (if_pos cc1).symm.trans h
      refine lv_iload_n hx hb dX10_posts_94 rfl (lv_at hl 2 rfl) ?_
      obtain ⟨q_1, hq_1, h⟩ := ob2 h
      refine kSI (As := [.int l2]) (rest := []) C0 (kt_X10_bits l G  l2 hq_1) gi_S_X10_244_X10_bits (n := 1) rfl (by decide +kernel) ⟨rfl, rfl, Nat.le_of_ble_eq_true rfl, Nat.le_of_ble_eq_true rfl⟩ hPD hS [] [0, 1, 2, 3, 4, 5, 6, 7, 8, 9, 10, 11, 12, 13, 14, 15, 16, 17, 18, 19, 20, 21, 22, 23, 24, 25, 26, 27, 28, 29, 30, 31, 32, 33] [0, 1, 2, 3, 4, 5, 6, 7, 8, 9, 10, 11, 12, 13, 14, 15, 16, 17, 18, 19, 20, 21, 22, 23, 24, 25, 26, 27, 28, 29, 30, 31, 32, 33] (wr := (wX10 G h0 a0 f0 A0)) (wN := (wX10 G h0 a0 f0 A0)) rfl rfl rfl rfl rfl hl.1 (Nat.le_of_ble_eq_true rfl) dX10_posts_95 (fun H locs hPD hS => ?_)
      refine lv_goto (tgt := 102) hx hb dX10_posts_98 (by decide) ?_
      obtain rfl := Option.some.inj h
      exact eI C0 hPD.1 hPD.2 hS rfl dX10_posts_102
  · have h := (if_neg cc1).symm.trans h
    refine lv_iload_n hx hb dX10_posts_26 rfl (lv_at hl 3 rfl) ?_
    refine lv_aload_n hx hb dX10_posts_27 rfl (lv_at hl 0 rfl) ?_
    refine va_get (D := G.1) (ci := 10) (v := .int (f0 6)) (C := RX10) (T := TX10) (N := 52) hx hb hts inlX10 hown hK hPD.1 0 rfl rfl 6 (by decide) (hts _ gw_532) (fun _ h9 => h9) rfl dX10_posts_28 ?_
    refine lv_iconst (v := (-1)) hx hb dX10_posts_31 (by decide) ?_
    refine lv_ixor hx hb dX10_posts_32 ?_
    refine lv_iand hx hb dX10_posts_33 ?_
    refine lv_if_ne (tgt := 84) hx hb dX10_posts_34 (by decide) (fun cc1 => ?_) (fun cc1 => ?_)
    · have h := (if_neg cc1).symm.trans h
      refine lv_iinc (v := l3 + 1) (lv' := [(3, .int (l3 + 1)), (0, .ref h0), (1, .int p1), (2, .int l2)]) hx hb dX10_posts_84 hl (k := 3) rfl rfl (by decide) rfl (fun ls hl => ?_)
      refine lv_goto (tgt := 18) hx hb dX10_posts_87 (by decide) ?_
      exact hk18 l2 (l3 + 1) h _ _ _ hPD hS (lv_sub hl [1, 2, 3, 0] rfl)
    · have h := (if_pos cc1).symm.trans h
      refine lv_iload_n hx hb dX10_posts_37 rfl (lv_at hl 3 rfl) ?_
      obtain ⟨q_2, hq_2, h⟩ := ob2 h
      refine kSI (As := [.int l3]) (rest := []) C0 (kt_X10_bits l G  l3 hq_2) gi_S_X10_244_X10_bits (n := 1) rfl (by decide +kernel) ⟨rfl, rfl, Nat.le_of_ble_eq_true rfl, Nat.le_of_ble_eq_true rfl⟩ hPD hS [] [0, 1, 2, 3, 4, 5, 6, 7, 8, 9, 10, 11, 12, 13, 14, 15, 16, 17, 18, 19, 20, 21, 22, 23, 24, 25, 26, 27, 28, 29, 30, 31, 32, 33] [0, 1, 2, 3, 4, 5, 6, 7, 8, 9, 10, 11, 12, 13, 14, 15, 16, 17, 18, 19, 20, 21, 22, 23, 24, 25, 26, 27, 28, 29, 30, 31, 32, 33] (wr := (wX10 G h0 a0 f0 A0)) (wN := (wX10 G h0 a0 f0 A0)) rfl rfl rfl rfl rfl hl.1 (Nat.le_of_ble_eq_true rfl) dX10_posts_38 (fun H locs hPD hS => ?_)
      refine lv_iload_n hx hb dX10_posts_41 rfl (lv_at hl 2 rfl) ?_
      obtain ⟨q_3, hq_3, h⟩ := ob2 h
      refine kSI (As := [.int l2]) (rest := [.int q_2]) C0 (kt_X10_bits l G  l2 hq_3) gi_S_X10_244_X10_bits (n := 1) rfl (by decide +kernel) ⟨rfl, rfl, Nat.le_of_ble_eq_true rfl, Nat.le_of_ble_eq_true rfl⟩ hPD hS [] [0, 1, 2, 3, 4, 5, 6, 7, 8, 9, 10, 11, 12, 13, 14, 15, 16, 17, 18, 19, 20, 21, 22, 23, 24, 25, 26, 27, 28, 29, 30, 31, 32, 33] [0, 1, 2, 3, 4, 5, 6, 7, 8, 9, 10, 11, 12, 13, 14, 15, 16, 17, 18, 19, 20, 21, 22, 23, 24, 25, 26, 27, 28, 29, 30, 31, 32, 33] (wr := (wX10 G h0 a0 f0 A0)) (wN := (wX10 G h0 a0 f0 A0)) rfl rfl rfl rfl rfl hl.1 (Nat.le_of_ble_eq_true rfl) dX10_posts_42 (fun H locs hPD hS => ?_)
      refine lv_icmp_gt (tgt := 84) hx hb dX10_posts_45 (by decide) (fun cc1 => ?_) (fun cc1 => ?_)
      · have h := (if_pos cc1).symm.trans h
        refine lv_iinc (v := l3 + 1) (lv' := [(3, .int (l3 + 1)), (0, .ref h0), (1, .int p1), (2, .int l2)]) hx hb dX10_posts_84 hl (k := 3) rfl rfl (by decide) rfl (fun ls hl => ?_)
        refine lv_goto (tgt := 18) hx hb dX10_posts_87 (by decide) ?_
        exact hk18 l2 (l3 + 1) h _ _ _ hPD hS (lv_sub hl [1, 2, 3, 0] rfl)
      · have h := (if_neg cc1).symm.trans h
        refine lv_iload_n hx hb dX10_posts_48 rfl (lv_at hl 3 rfl) ?_
        obtain ⟨q_4, hq_4, h⟩ := ob2 h
        refine kSI (As := [.int l3]) (rest := []) C0 (kt_X10_bits l G  l3 hq_4) gi_S_X10_244_X10_bits (n := 1) rfl (by decide +kernel) ⟨rfl, rfl, Nat.le_of_ble_eq_true rfl, Nat.le_of_ble_eq_true rfl⟩ hPD hS [] [0, 1, 2, 3, 4, 5, 6, 7, 8, 9, 10, 11, 12, 13, 14, 15, 16, 17, 18, 19, 20, 21, 22, 23, 24, 25, 26, 27, 28, 29, 30, 31, 32, 33] [0, 1, 2, 3, 4, 5, 6, 7, 8, 9, 10, 11, 12, 13, 14, 15, 16, 17, 18, 19, 20, 21, 22, 23, 24, 25, 26, 27, 28, 29, 30, 31, 32, 33] (wr := (wX10 G h0 a0 f0 A0)) (wN := (wX10 G h0 a0 f0 A0)) rfl rfl rfl rfl rfl hl.1 (Nat.le_of_ble_eq_true rfl) dX10_posts_49 (fun H locs hPD hS => ?_)
        refine lv_iload_n hx hb dX10_posts_52 rfl (lv_at hl 2 rfl) ?_
        obtain ⟨q_5, hq_5, h⟩ := ob2 h
        refine kSI (As := [.int l2]) (rest := [.int q_4]) C0 (kt_X10_bits l G  l2 hq_5) gi_S_X10_244_X10_bits (n := 1) rfl (by decide +kernel) ⟨rfl, rfl, Nat.le_of_ble_eq_true rfl, Nat.le_of_ble_eq_true rfl⟩ hPD hS [] [0, 1, 2, 3, 4, 5, 6, 7, 8, 9, 10, 11, 12, 13, 14, 15, 16, 17, 18, 19, 20, 21, 22, 23, 24, 25, 26, 27, 28, 29, 30, 31, 32, 33] [0, 1, 2, 3, 4, 5, 6, 7, 8, 9, 10, 11, 12, 13, 14, 15, 16, 17, 18, 19, 20, 21, 22, 23, 24, 25, 26, 27, 28, 29, 30, 31, 32, 33] (wr := (wX10 G h0 a0 f0 A0)) (wN := (wX10 G h0 a0 f0 A0)) rfl rfl rfl rfl rfl hl.1 (Nat.le_of_ble_eq_true rfl) dX10_posts_53 (fun H locs hPD hS => ?_)
        refine lv_icmp_ne (tgt := 67) hx hb dX10_posts_56 (by decide) (fun cc1 => ?_) (fun cc1 => ?_)
        · have h := (if_neg cc1).symm.trans h
          exact ww_f10_posts_b67 C0 hk18 l2 l3 h _ _ _ hPD hS (lv_sub hl [0, 1, 2, 3] rfl)
        · have h := (if_pos cc1).symm.trans h
          refine lv_iload_n hx hb dX10_posts_59 rfl (lv_at hl 3 rfl) ?_
          refine lv_iload_n hx hb dX10_posts_60 rfl (lv_at hl 2 rfl) ?_
          refine lv_icmp_le (tgt := 67) hx hb dX10_posts_61 (by decide) (fun cc1 => ?_) (fun cc1 => ?_)
          · have h := (if_pos cc1).symm.trans h
            exact ww_f10_posts_b67 C0 hk18 l2 l3 h _ _ _ hPD hS (lv_sub hl [0, 1, 2, 3] rfl)
          · have h := (if_neg cc1).symm.trans h
            refine lv_goto (tgt := 84) hx hb dX10_posts_64 (by decide) ?_
            refine lv_iinc (v := l3 + 1) (lv' := [(3, .int (l3 + 1)), (0, .ref h0), (1, .int p1), (2, .int l2)]) hx hb dX10_posts_84 hl (k := 3) rfl rfl (by decide) rfl (fun ls hl => ?_)
            refine lv_goto (tgt := 18) hx hb dX10_posts_87 (by decide) ?_
            exact hk18 l2 (l3 + 1) h _ _ _ hPD hS (lv_sub hl [1, 2, 3, 0] rfl)
set_option maxRecDepth 100000 in
set_option maxHeartbeats 4000000 in
theorem ww_f10_posts_l18  (C0 : Cx cX10_posts 4 (some .int) RX10 p s m args meth c G DA) {h0 : Nat} {a0 : Nat → Nat} {f0 : Nat → Int32} {A0 : Nat → Nat → Int32} {p1 : Int32}   {res : Int32}  : ∀ (n : Nat) (l2 : Int32) (l3 : Int32), f10_posts_l18 f0 A0 p1  n l2 l3 = some res → ∀ (H : Heap) (locs : List Loc) (ls : Array Slot), WD G DA (wX10 G h0 a0 f0 A0) H → va_S DA s.heap H locs → lv_has ls 4 [(0, .ref h0), (1, .int p1), (2, .int l2), (3, .int l3)] → W p l e rmX10_posts s m args below meth c H locs 0 0 (MQ below (QI G DA res (wX10 G h0 a0 f0 A0)) args s 0 0 DA) (F0 m 18 ls []) := by
  intro n
  induction n with
  | zero => intro l2 l3 h; cases h
  | succ n ih => intro l2 l3 h; exact ww_f10_posts_b18 C0  ih l2 l3 h
set_option maxRecDepth 100000 in
set_option maxHeartbeats 4000000 in
theorem kt_X10_posts (l : Launch) (G : Gp) (h0 : Nat) (a0 : Nat → Nat) (f0 : Nat → Int32) (A0 : Nat → Nat → Int32) (p1 : Int32) : ∀ {r : Int32}, f10_posts f0 A0 p1 = some r → CtrI l yX10_posts cX10_posts 4 (some .int) rmX10_posts G [.ref h0, .int p1] (wX10 G h0 a0 f0 A0) r (wX10 G h0 a0 f0 A0) := by
  intro res h
  refine ctrI_of (cc := cX10_posts) (maxL := 4) (ret := (some .int)) (by decide +kernel) rfl (Nat.le_of_ble_eq_true rfl) (fun p e s m below meth c DA C0 hP hD ls hl => ?_)
  have hPD : WD G DA (wX10 G h0 a0 f0 A0) s.heap := ⟨hP, hD⟩
  have hS : va_S DA s.heap s.heap [] := va_S.rf
  have hl : lv_has ls 4 [(0, .ref h0), (1, .int p1)] := hl
  obtain ⟨hx, hb, hml, hown, hts⟩ := C0.1
  have hK := C0.2.2.2.1
  unfold f10_posts at h
  refine lv_iload_n hx hb dX10_posts_0 rfl (lv_at hl 1 rfl) ?_
  refine lv_iconst (v := 0) hx hb dX10_posts_1 (by decide) ?_
  refine lv_iconst (v := 1) hx hb dX10_posts_2 (by decide) ?_
  refine kSI (As := [.int p1, .int 0, .int 1]) (rest := []) C0 (kt_X10_in l G  p1 0 1) gi_S_X10_112_X10_in (n := 3) rfl (by decide +kernel) ⟨rfl, rfl, Nat.le_of_ble_eq_true rfl, Nat.le_of_ble_eq_true rfl⟩ hPD hS [] [0, 1, 2, 3, 4, 5, 6, 7, 8, 9, 10, 11, 12, 13, 14, 15, 16, 17, 18, 19, 20, 21, 22, 23, 24, 25, 26, 27, 28, 29, 30, 31, 32, 33] [0, 1, 2, 3, 4, 5, 6, 7, 8, 9, 10, 11, 12, 13, 14, 15, 16, 17, 18, 19, 20, 21, 22, 23, 24, 25, 26, 27, 28, 29, 30, 31, 32, 33] (wr := (wX10 G h0 a0 f0 A0)) (wN := (wX10 G h0 a0 f0 A0)) rfl rfl rfl rfl rfl hl.1 (Nat.le_of_ble_eq_true rfl) dX10_posts_3 (fun H locs hPD hS => ?_)
  refine lv_if_ne (tgt := 11) hx hb dX10_posts_6 (by decide) (fun cc1 => ?_) (fun cc1 => ?_)
  · have h := (if_neg cc1).symm.trans h
    refine lv_aload_n hx hb dX10_posts_11 rfl (lv_at hl 0 rfl) ?_
    refine va_get (D := G.1) (ci := 10) (v := .int (f0 6)) (C := RX10) (T := TX10) (N := 52) hx hb hts inlX10 hown hK hPD.1 0 rfl rfl 6 (by decide) (hts _ gw_532) (fun _ h9 => h9) rfl dX10_posts_12 ?_
    refine lv_istore_n (lv' := [(2, .int (f0 6)), (0, .ref h0), (1, .int p1)]) hx hb dX10_posts_15 rfl hl (by decide) rfl (fun ls hl => ?_)
    refine lv_iconst (v := 0) hx hb dX10_posts_16 (by decide) ?_
    refine lv_istore_n (lv' := [(3, .int 0), (2, .int (f0 6)), (0, .ref h0), (1, .int p1)]) hx hb dX10_posts_17 rfl hl (by decide) rfl (fun ls hl => ?_)
    exact ww_f10_posts_l18 C0 NF (f0 6) 0 h _ _ _ hPD hS (lv_sub hl [2, 3, 1, 0] rfl)
  · have h := (if_pos cc1).symm.trans h
    refine lv_iconst (v := (-1)) hx hb dX10_posts_9 (by decide) ?_
    obtain rfl := Option.some.inj h
    exact eI C0 hPD.1 hPD.2 hS rfl dX10_posts_10
abbrev rmX10_temptationOf : Room := { frames := 1, cells := 0, slots := 0, locals := 21 }
set_option maxRecDepth 100000 in
set_option maxHeartbeats 4000000 in
theorem ww_f10_temptationOf_b4  (C0 : Cx cX10_temptationOf 4 (some .int) RX10 p s m args meth c G DA) {h0 : Nat} {a0 : Nat → Nat} {f0 : Nat → Int32} {A0 : Nat → Nat → Int32} {p1 : Int32}  {k4 : Int32 → Int32 → Option (Int32)} {res : Int32}  (hk4 : ∀ (l2 : Int32) (l3 : Int32), k4 l2 l3 = some res → ∀ (H : Heap) (locs : List Loc) (ls : Array Slot), WD G DA (wX10 G h0 a0 f0 A0) H → va_S DA s.heap H locs → lv_has ls 4 [(0, .ref h0), (1, .int p1), (2, .int l2), (3, .int l3)] → W p l e rmX10_temptationOf s m args below meth c H locs 0 0 (MQ below (QI G DA res (wX10 G h0 a0 f0 A0)) args s 0 0 DA) (F0 m 4 ls [])) : ∀ (l2 : Int32) (l3 : Int32), f10_temptationOf_b4 f0 A0 p1  k4 l2 l3 = some res → ∀ (H : Heap) (locs : List Loc) (ls : Array Slot), WD G DA (wX10 G h0 a0 f0 A0) H → va_S DA s.heap H locs → lv_has ls 4 [(0, .ref h0), (1, .int p1), (2, .int l2), (3, .int l3)] → W p l e rmX10_temptationOf s m args below meth c H locs 0 0 (MQ below (QI G DA res (wX10 G h0 a0 f0 A0)) args s 0 0 DA) (F0 m 4 ls []) := by
  obtain ⟨hx, hb, hml, hown, hts⟩ := C0.1
  have hK := C0.2.2.2.1
  intro l2 l3 h _ _ _ hPD hS hl
  unfold f10_temptationOf_b4 at h
  refine lv_iload_n hx hb dX10_temptationOf_4 rfl (lv_at hl 3 rfl) ?_
  refine lv_bipush (v := 16) hx hb dX10_temptationOf_5 (by decide) ?_
  refine lv_icmp_ge (tgt := 35) hx hb dX10_temptationOf_7 (by decide) (fun cc1 => ?_) (fun cc1 => ?_)
  · have h := (if_pos cc1).symm.trans h
    refine lv_iload_n hx hb dX10_temptationOf_35 rfl (lv_at hl 2 rfl) ?_
    obtain rfl := Option.some.inj h
    exact eI C0 hPD.1 hPD.2 hS rfl dX10_temptationOf_36
  · have h := (if_neg cc1).symm.trans h
    refine lv_iload_n hx hb dX10_temptationOf_10 rfl (lv_at hl 1 rfl) ?_
    refine lv_iload_n hx hb dX10_temptationOf_11 rfl (lv_at hl 3 rfl) ?_
    refine kSI (As := [.int p1, .int l3]) (rest := []) C0 (kt_X10_has l G  p1 l3) gi_S_X10_120_X10_has (n := 2) rfl (by decide +kernel) ⟨rfl, rfl, Nat.le_of_ble_eq_true rfl, Nat.le_of_ble_eq_true rfl⟩ hPD hS [] [0, 1, 2, 3, 4, 5, 6, 7, 8, 9, 10, 11, 12, 13, 14, 15, 16, 17, 18, 19, 20, 21, 22, 23, 24, 25, 26, 27, 28, 29, 30, 31, 32, 33] [0, 1, 2, 3, 4, 5, 6, 7, 8, 9, 10, 11, 12, 13, 14, 15, 16, 17, 18, 19, 20, 21, 22, 23, 24, 25, 26, 27, 28, 29, 30, 31, 32, 33] (wr := (wX10 G h0 a0 f0 A0)) (wN := (wX10 G h0 a0 f0 A0)) rfl rfl rfl rfl rfl hl.1 (Nat.le_of_ble_eq_true rfl) dX10_temptationOf_12 (fun H locs hPD hS => ?_)
    refine lv_if_eq (tgt := 29) hx hb dX10_temptationOf_15 (by decide) (fun cc1 => ?_) (fun cc1 => ?_)
    · have h := (if_pos cc1).symm.trans h
      refine lv_iinc (v := l3 + 1) (lv' := [(3, .int (l3 + 1)), (0, .ref h0), (1, .int p1), (2, .int l2)]) hx hb dX10_temptationOf_29 hl (k := 3) rfl rfl (by decide) rfl (fun ls hl => ?_)
      refine lv_goto (tgt := 4) hx hb dX10_temptationOf_32 (by decide) ?_
      exact hk4 l2 (l3 + 1) h _ _ _ hPD hS (lv_sub hl [1, 2, 3, 0] rfl)
    · have h := (if_neg cc1).symm.trans h
      refine lv_iload_n hx hb dX10_temptationOf_18 rfl (lv_at hl 2 rfl) ?_
      refine lv_aload_n hx hb dX10_temptationOf_19 rfl (lv_at hl 0 rfl) ?_
      refine va_get (D := G.1) (ci := 10) (v := .ref (a0 0)) (C := RX10) (T := TX10) (N := 52) hx hb hts inlX10 hown hK hPD.1 0 rfl rfl 0 (by decide) (hts _ gw_536) (fun _ h9 => h9) rfl dX10_temptationOf_20 ?_
      refine lv_iconst (v := 0) hx hb dX10_temptationOf_23 (by decide) ?_
      refine lv_iload_n hx hb dX10_temptationOf_24 rfl (lv_at hl 3 rfl) ?_
      refine lv_iadd hx hb dX10_temptationOf_25 ?_
      obtain ⟨hi_1, h⟩ := ob h
      refine va_iald hx hb hK hPD.1 1 1 rfl rfl hi_1 dX10_temptationOf_26 ?_
      refine lv_iadd hx hb dX10_temptationOf_27 ?_
      refine lv_istore_n (lv' := [(2, .int (l2 + (gx (A0 0) (0 + l3)))), (0, .ref h0), (1, .int p1), (3, .int l3)]) hx hb dX10_temptationOf_28 rfl hl (by decide) rfl (fun ls hl => ?_)
      refine lv_iinc (v := l3 + 1) (lv' := [(3, .int (l3 + 1)), (2, .int (l2 + (gx (A0 0) (0 + l3)))), (0, .ref h0), (1, .int p1)]) hx hb dX10_temptationOf_29 hl (k := 3) rfl rfl (by decide) rfl (fun ls hl => ?_)
      refine lv_goto (tgt := 4) hx hb dX10_temptationOf_32 (by decide) ?_
      exact hk4 (l2 + (gx (A0 0) (0 + l3))) (l3 + 1) h _ _ _ hPD hS (lv_sub hl [2, 3, 1, 0] rfl)
end WALK
