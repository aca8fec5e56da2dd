section WALK
variable {p : Program} {l : Launch} {e : Env} {s : State} {m : MethodId} {args : Array Value} {below : List Frame} {meth : Method} {c : Code} {G : Gp} {DA : Nat → Prop}
set_option maxRecDepth 100000 in
set_option maxHeartbeats 4000000 in
theorem ww_f10_byLaw_l2  (C0 : Cx cX10_byLaw 5 (some .int) RX10 p s m args meth c G DA) {h0 : Nat} {a0 : Nat → Nat} {f0 : Nat → Int32} {p1 : Int32} {p2 : Int32}   {res : Int32 × (Nat → Nat → Int32)}  : ∀ (n : Nat) (A0 : Nat → Nat → Int32) (l3 : Int32), f10_byLaw_l2 f0 p1 p2  n A0 l3 = some res → ∀ (H : Heap) (locs : List Loc) (ls : Array Slot), WD G DA (wX10 G h0 a0 f0 A0) H → va_S DA s.heap H locs → lv_has ls 5 [(0, .ref h0), (1, .int p1), (2, .int p2), (3, .int l3)] → W p l e rmX10_byLaw s m args below meth c H locs 0 0 (MQ below (QI G DA res.1 (wX10 G h0 a0 f0 res.2)) args s 0 0 DA) (F0 m 2 ls []) := by
  intro n
  induction n with
  | zero => intro A0 l3 h; cases h
  | succ n ih => intro A0 l3 h; exact ww_f10_byLaw_b2 C0  ih A0 l3 h
set_option maxRecDepth 100000 in
set_option maxHeartbeats 4000000 in
theorem kt_X10_byLaw (l : Launch) (G : Gp) (h0 : Nat) (a0 : Nat → Nat) (f0 : Nat → Int32) (A0 : Nat → Nat → Int32) (p1 : Int32) (p2 : Int32) : ∀ {r : Int32 × (Nat → Nat → Int32)}, f10_byLaw f0 A0 p1 p2 = some r → CtrI l yX10_byLaw cX10_byLaw 5 (some .int) rmX10_byLaw G [.ref h0, .int p1, .int p2] (wX10 G h0 a0 f0 A0) r.1 (wX10 G h0 a0 f0 r.2) := by
  intro res h
  refine ctrI_of (cc := cX10_byLaw) (maxL := 5) (ret := (some .int)) (by decide +kernel) rfl (Nat.le_of_ble_eq_true rfl) (fun p e s m below meth c DA C0 hP hD ls hl => ?_)
  have hPD : WD G DA (wX10 G h0 a0 f0 A0) s.heap := ⟨hP, hD⟩
  have hS : va_S DA s.heap s.heap [] := va_S.rf
  have hl : lv_has ls 5 [(0, .ref h0), (1, .int p1), (2, .int p2)] := hl
  obtain ⟨hx, hb, hml, hown, hts⟩ := C0.1
  have hK := C0.2.2.2.1
  unfold f10_byLaw at h
  refine lv_iconst (v := 0) hx hb dX10_byLaw_0 (by decide) ?_
  refine lv_istore_n (lv' := [(3, .int 0), (0, .ref h0), (1, .int p1), (2, .int p2)]) hx hb dX10_byLaw_1 rfl hl (by decide) rfl (fun ls hl => ?_)
  exact ww_f10_byLaw_l2 C0 NF A0 0 h _ _ _ hPD hS (lv_sub hl [1, 2, 3, 0] rfl)
abbrev rmX10_holdsAny : Room := { frames := 2, cells := 0, slots := 0, locals := 49 }
set_option maxRecDepth 100000 in
set_option maxHeartbeats 4000000 in
theorem ww_f10_holdsAny_b2  (C0 : Cx cX10_holdsAny 3 (some .boolean) RX10 p s m args meth c G DA) {h0 : Nat} {a0 : Nat → Nat} {f0 : Nat → Int32} {p1 : Int32}  {k2 : (Nat → Nat → Int32) → Int32 → Option (Int32 × (Nat → Nat → Int32))} {res : Int32 × (Nat → Nat → Int32)}  (hk2 : ∀ (A0 : Nat → Nat → Int32) (l2 : Int32), k2 A0 l2 = some res → ∀ (H : Heap) (locs : List Loc) (ls : Array Slot), WD G DA (wX10 G h0 a0 f0 A0) H → va_S DA s.heap H locs → lv_has ls 3 [(0, .ref h0), (1, .int p1), (2, .int l2)] → W p l e rmX10_holdsAny s m args below meth c H locs 0 0 (MQ below (QI G DA res.1 (wX10 G h0 a0 f0 res.2)) args s 0 0 DA) (F0 m 2 ls [])) : ∀ (A0 : Nat → Nat → Int32) (l2 : Int32), f10_holdsAny_b2 f0 p1  k2 A0 l2 = some res → ∀ (H : Heap) (locs : List Loc) (ls : Array Slot), WD G DA (wX10 G h0 a0 f0 A0) H → va_S DA s.heap H locs → lv_has ls 3 [(0, .ref h0), (1, .int p1), (2, .int l2)] → W p l e rmX10_holdsAny s m args below meth c H locs 0 0 (MQ below (QI G DA res.1 (wX10 G h0 a0 f0 res.2)) args s 0 0 DA) (F0 m 2 ls []) := by
  obtain ⟨hx, hb, hml, hown, hts⟩ := C0.1
  have hK := C0.2.2.2.1
  intro A0 l2 h _ _ _ hPD hS hl
  unfold f10_holdsAny_b2 at h
  refine lv_iload_n hx hb dX10_holdsAny_2 rfl (lv_at hl 2 rfl) ?_
  refine lv_aload_n hx hb dX10_holdsAny_3 rfl (lv_at hl 0 rfl) ?_
  refine va_get (D := G.1) (ci := 10) (v := .int (f0 17)) (C := RX10) (T := TX10) (N := 52) hx hb hts inlX10 hown hK hPD.1 0 rfl rfl 17 (by decide) (hts _ gw_644) (fun _ h9 => h9) rfl dX10_holdsAny_4 ?_
  refine lv_icmp_ge (tgt := 48) hx hb dX10_holdsAny_7 (by decide) (fun cc1 => ?_) (fun cc1 => ?_)
  · have h := (if_pos cc1).symm.trans h
    refine lv_iconst (v := 0) hx hb dX10_holdsAny_48 (by decide) ?_
    obtain rfl := Option.some.inj h
    exact eZ C0 hPD.1 hPD.2 hS rfl rfl dX10_holdsAny_49
  · have h := (if_neg cc1).symm.trans h
    refine lv_aload_n hx hb dX10_holdsAny_10 rfl (lv_at hl 0 rfl) ?_
    refine va_get (D := G.1) (ci := 10) (v := .ref (a0 25)) (C := RX10) (T := TX10) (N := 52) hx hb hts inlX10 hown hK hPD.1 0 rfl rfl 25 (by decide) (hts _ gw_645) (fun _ h9 => h9) rfl dX10_holdsAny_11 ?_
    refine lv_iload_n hx hb dX10_holdsAny_14 rfl (lv_at hl 2 rfl) ?_
    obtain ⟨hi_1, h⟩ := ob h
    refine va_iald hx hb hK hPD.1 15 1 rfl rfl hi_1 dX10_holdsAny_15 ?_
    refine lv_iload_n hx hb dX10_holdsAny_16 rfl (lv_at hl 1 rfl) ?_
    refine lv_icmp_ne (tgt := 42) hx hb dX10_holdsAny_17 (by decide) (fun cc1 => ?_) (fun cc1 => ?_)
    · have h := (if_neg cc1).symm.trans h
      refine lv_iinc (v := l2 + 1) (lv' := [(2, .int (l2 + 1)), (0, .ref h0), (1, .int p1)]) hx hb dX10_holdsAny_42 hl (k := 2) rfl rfl (by decide) rfl (fun ls hl => ?_)
      refine lv_goto (tgt := 2) hx hb dX10_holdsAny_45 (by decide) ?_
      exact hk2 A0 (l2 + 1) h _ _ _ hPD hS (lv_sub hl [1, 2, 0] rfl)
    · have h := (if_pos cc1).symm.trans h
      refine lv_aload_n hx hb dX10_holdsAny_20 rfl (lv_at hl 0 rfl) ?_
      refine lv_aload_n hx hb dX10_holdsAny_21 rfl (lv_at hl 0 rfl) ?_
      refine va_get (D := G.1) (ci := 10) (v := .ref (a0 27)) (C := RX10) (T := TX10) (N := 52) hx hb hts inlX10 hown hK hPD.1 0 rfl rfl 27 (by decide) (hts _ gw_647) (fun _ h9 => h9) rfl dX10_holdsAny_22 ?_
      refine lv_iload_n hx hb dX10_holdsAny_25 rfl (lv_at hl 2 rfl) ?_
      obtain ⟨hi_2, h⟩ := ob h
      refine va_iald hx hb hK hPD.1 17 1 rfl rfl hi_2 dX10_holdsAny_26 ?_
      refine lv_aload_n hx hb dX10_holdsAny_27 rfl (lv_at hl 0 rfl) ?_
      refine va_get (D := G.1) (ci := 10) (v := .ref (a0 28)) (C := RX10) (T := TX10) (N := 52) hx hb hts inlX10 hown hK hPD.1 0 rfl rfl 28 (by decide) (hts _ gw_648) (fun _ h9 => h9) rfl dX10_holdsAny_28 ?_
      refine lv_iload_n hx hb dX10_holdsAny_31 rfl (lv_at hl 2 rfl) ?_
      obtain ⟨hi_3, h⟩ := ob h
      refine va_iald hx hb hK hPD.1 18 1 rfl rfl hi_3 dX10_holdsAny_32 ?_
      obtain ⟨q_4, hq_4, h⟩ := ob2 h
      refine kVI (As := [.int (gx (A0 27) l2), .int (gx (A0 28) l2)]) (rest := []) C0 (kt_X10_comesTo l G h0 a0 f0 A0 (gx (A0 27) l2) (gx (A0 28) l2) hq_4) gi_V_X10_237_X10_comesTo (n := 2) rfl (by decide +kernel) rfl ⟨rfl, rfl, Nat.le_of_ble_eq_true rfl, Nat.le_of_ble_eq_true rfl⟩ hPD hS 0 10 rfl rfl rfl [0, 1, 2, 3, 4, 5, 6, 7, 8, 9, 10, 11, 12, 13, 14, 15, 16, 17, 18, 19, 20, 21, 22, 23, 24, 25, 26, 27, 28, 29, 30, 31, 32, 33] [] [0, 1, 2, 3, 4, 5, 6, 7, 8, 9, 10, 11, 12, 13, 14, 15, 16, 17, 18, 19, 20, 21, 22, 23, 24, 25, 26, 27, 28, 29, 30, 31, 32, 33] (wr := ([] : va_W)) (wN := (wX10 G h0 a0 f0 q_4.2)) rfl rfl rfl rfl rfl hl.1 (Nat.le_of_ble_eq_true rfl) dX10_holdsAny_33 (fun H locs hPD hS => ?_)
      refine lv_iconst (v := 1) hx hb dX10_holdsAny_36 (by decide) ?_
      refine lv_icmp_ne (tgt := 42) hx hb dX10_holdsAny_37 (by decide) (fun cc1 => ?_) (fun cc1 => ?_)
      · have h := (if_neg cc1).symm.trans h
        refine lv_iinc (v := l2 + 1) (lv' := [(2, .int (l2 + 1)), (0, .ref h0), (1, .int p1)]) hx hb dX10_holdsAny_42 hl (k := 2) rfl rfl (by decide) rfl (fun ls hl => ?_)
        refine lv_goto (tgt := 2) hx hb dX10_holdsAny_45 (by decide) ?_
        exact hk2 q_4.2 (l2 + 1) h _ _ _ hPD hS (lv_sub hl [1, 2, 0] rfl)
      · have h := (if_pos cc1).symm.trans h
        refine lv_iconst (v := 1) hx hb dX10_holdsAny_40 (by decide) ?_
        obtain rfl := Option.some.inj h
        exact eZ C0 hPD.1 hPD.2 hS rfl rfl dX10_holdsAny_41
set_option maxRecDepth 100000 in
set_option maxHeartbeats 4000000 in
theorem ww_f10_holdsAny_l2  (C0 : Cx cX10_holdsAny 3 (some .boolean) RX10 p s m args meth c G DA) {h0 : Nat} {a0 : Nat → Nat} {f0 : Nat → Int32} {p1 : Int32}   {res : Int32 × (Nat → Nat → Int32)}  : ∀ (n : Nat) (A0 : Nat → Nat → Int32) (l2 : Int32), f10_holdsAny_l2 f0 p1  n A0 l2 = some res → ∀ (H : Heap) (locs : List Loc) (ls : Array Slot), WD G DA (wX10 G h0 a0 f0 A0) H → va_S DA s.heap H locs → lv_has ls 3 [(0, .ref h0), (1, .int p1), (2, .int l2)] → W p l e rmX10_holdsAny s m args below meth c H locs 0 0 (MQ below (QI G DA res.1 (wX10 G h0 a0 f0 res.2)) args s 0 0 DA) (F0 m 2 ls []) := by
  intro n
  induction n with
  | zero => intro A0 l2 h; cases h
  | succ n ih => intro A0 l2 h; exact ww_f10_holdsAny_b2 C0  ih A0 l2 h
set_option maxRecDepth 100000 in
set_option maxHeartbeats 4000000 in
theorem kt_X10_holdsAny (l : Launch) (G : Gp) (h0 : Nat) (a0 : Nat → Nat) (f0 : Nat → Int32) (A0 : Nat → Nat → Int32) (p1 : Int32) : ∀ {r : Int32 × (Nat → Nat → Int32)}, f10_holdsAny f0 A0 p1 = some r → CtrI l yX10_holdsAny cX10_holdsAny 3 (some .boolean) rmX10_holdsAny G [.ref h0, .int p1] (wX10 G h0 a0 f0 A0) r.1 (wX10 G h0 a0 f0 r.2) := by
  intro res h
  refine ctrI_of (cc := cX10_holdsAny) (maxL := 3) (ret := (some .boolean)) (by decide +kernel) rfl (Nat.le_of_ble_eq_true rfl) (fun p e s m below meth c DA C0 hP hD ls hl => ?_)
  have hPD : WD G DA (wX10 G h0 a0 f0 A0) s.heap := ⟨hP, hD⟩
  have hS : va_S DA s.heap s.heap [] := va_S.rf
  have hl : lv_has ls 3 [(0, .ref h0), (1, .int p1)] := hl
  obtain ⟨hx, hb, hml, hown, hts⟩ := C0.1
  have hK := C0.2.2.2.1
  unfold f10_holdsAny at h
  refine lv_iconst (v := 0) hx hb dX10_holdsAny_0 (by decide) ?_
  refine lv_istore_n (lv' := [(2, .int 0), (0, .ref h0), (1, .int p1)]) hx hb dX10_holdsAny_1 rfl hl (by decide) rfl (fun ls hl => ?_)
  exact ww_f10_holdsAny_l2 C0 NF A0 0 h _ _ _ hPD hS (lv_sub hl [1, 2, 0] rfl)
abbrev rmX10_menNear : Room := { frames := 3, cells := 0, slots := 0, locals := 66 }
set_option maxRecDepth 100000 in
set_option maxHeartbeats 4000000 in
theorem ww_f10_menNear_b4  (C0 : Cx cX10_menNear 4 (some .int) RX10 p s m args meth c G DA) {h0 : Nat} {a0 : Nat → Nat} {f0 : Nat → Int32} {A0 : Nat → Nat → Int32} {p1 : Int32}  {k4 : Int32 → Int32 → Option (Int32)} {res : Int32}  (hk4 : ∀ (l2 : Int32) (l3 : Int32), k4 l2 l3 = some res → ∀ (H : Heap) (locs : List Loc) (ls : Array Slot), WD G DA (wX10 G h0 a0 f0 A0) H → va_S DA s.heap H locs → lv_has ls 4 [(0, .ref h0), (1, .int p1), (2, .int l2), (3, .int l3)] → W p l e rmX10_menNear s m args below meth c H locs 0 0 (MQ below (QI G DA res (wX10 G h0 a0 f0 A0)) args s 0 0 DA) (F0 m 4 ls [])) : ∀ (l2 : Int32) (l3 : Int32), f10_menNear_b4 f0 A0 p1  k4 l2 l3 = some res → ∀ (H : Heap) (locs : List Loc) (ls : Array Slot), WD G DA (wX10 G h0 a0 f0 A0) H → va_S DA s.heap H locs → lv_has ls 4 [(0, .ref h0), (1, .int p1), (2, .int l2), (3, .int l3)] → W p l e rmX10_menNear s m args below meth c H locs 0 0 (MQ below (QI G DA res (wX10 G h0 a0 f0 A0)) args s 0 0 DA) (F0 m 4 ls []) := by
  obtain ⟨hx, hb, hml, hown, hts⟩ := C0.1
  have hK := C0.2.2.2.1
  intro l2 l3 h _ _ _ hPD hS hl
  unfold f10_menNear_b4 at h
  refine lv_iload_n hx hb dX10_menNear_4 rfl (lv_at hl 3 rfl) ?_
  refine lv_bipush (v := 16) hx hb dX10_menNear_5 (by decide) ?_
  refine lv_icmp_ge (tgt := 40) hx hb dX10_menNear_7 (by decide) (fun cc1 => ?_) (fun cc1 => ?_)
  · have h := (if_pos cc1).symm.trans h
    refine lv_iload_n hx hb dX10_menNear_40 rfl (lv_at hl 2 rfl) ?_
    obtain rfl := Option.some.inj h
    exact eI C0 hPD.1 hPD.2 hS rfl dX10_menNear_41
  · have h := (if_neg cc1).symm.trans h
    refine lv_aload_n hx hb dX10_menNear_10 rfl (lv_at hl 0 rfl) ?_
    refine va_get (D := G.1) (ci := 10) (v := .ref (a0 3)) (C := RX10) (T := TX10) (N := 52) hx hb hts inlX10 hown hK hPD.1 0 rfl rfl 3 (by decide) (hts _ gw_663) (fun _ h9 => h9) rfl dX10_menNear_11 ?_
    refine lv_iload_n hx hb dX10_menNear_14 rfl (lv_at hl 1 rfl) ?_
    obtain ⟨hi_1, h⟩ := ob h
    refine va_iald hx hb hK hPD.1 4 1 rfl rfl hi_1 dX10_menNear_15 ?_
    refine lv_iload_n hx hb dX10_menNear_16 rfl (lv_at hl 3 rfl) ?_
    refine kSI (As := [.int (gx (A0 3) p1), .int l3]) (rest := []) C0 (kt_X10_has l G  (gx (A0 3) p1) l3) gi_S_X10_120_X10_has (n := 2) rfl (by decide +kernel) ⟨rfl, rfl, Nat.le_of_ble_eq_true rfl, Nat.le_of_ble_eq_true rfl⟩ hPD hS [] [0, 1, 2, 3, 4, 5, 6, 7, 8, 9, 10, 11, 12, 13, 14, 15, 16, 17, 18, 19, 20, 21, 22, 23, 24, 25, 26, 27, 28, 29, 30, 31, 32, 33] [0, 1, 2, 3, 4, 5, 6, 7, 8, 9, 10, 11, 12, 13, 14, 15, 16, 17, 18, 19, 20, 21, 22, 23, 24, 25, 26, 27, 28, 29, 30, 31, 32, 33] (wr := (wX10 G h0 a0 f0 A0)) (wN := (wX10 G h0 a0 f0 A0)) rfl rfl rfl rfl rfl hl.1 (Nat.le_of_ble_eq_true rfl) dX10_menNear_17 (fun H locs hPD hS => ?_)
    refine lv_if_eq (tgt := 34) hx hb dX10_menNear_20 (by decide) (fun cc1 => ?_) (fun cc1 => ?_)
    · have h := (if_pos cc1).symm.trans h
      refine lv_iinc (v := l3 + 1) (lv' := [(3, .int (l3 + 1)), (0, .ref h0), (1, .int p1), (2, .int l2)]) hx hb dX10_menNear_34 hl (k := 3) rfl rfl (by decide) rfl (fun ls hl => ?_)
      refine lv_goto (tgt := 4) hx hb dX10_menNear_37 (by decide) ?_
      exact hk4 l2 (l3 + 1) h _ _ _ hPD hS (lv_sub hl [1, 2, 3, 0] rfl)
    · have h := (if_neg cc1).symm.trans h
      refine lv_iload_n hx hb dX10_menNear_23 rfl (lv_at hl 2 rfl) ?_
      refine lv_aload_n hx hb dX10_menNear_24 rfl (lv_at hl 0 rfl) ?_
      refine lv_iload_n hx hb dX10_menNear_25 rfl (lv_at hl 3 rfl) ?_
      obtain ⟨q_2, hq_2, h⟩ := ob2 h
      refine kVI (As := [.int l3]) (rest := [.int l2]) C0 (kt_X10_menAt l G h0 a0 f0 A0 l3 hq_2) gi_V_X10_241_X10_menAt (n := 1) rfl (by decide +kernel) rfl ⟨rfl, rfl, Nat.le_of_ble_eq_true rfl, Nat.le_of_ble_eq_true rfl⟩ hPD hS 0 10 rfl rfl rfl [0, 1, 2, 3, 4, 5, 6, 7, 8, 9, 10, 11, 12, 13, 14, 15, 16, 17, 18, 19, 20, 21, 22, 23, 24, 25, 26, 27, 28, 29, 30, 31, 32, 33] [] [0, 1, 2, 3, 4, 5, 6, 7, 8, 9, 10, 11, 12, 13, 14, 15, 16, 17, 18, 19, 20, 21, 22, 23, 24, 25, 26, 27, 28, 29, 30, 31, 32, 33] (wr := ([] : va_W)) (wN := (wX10 G h0 a0 f0 A0)) rfl rfl rfl rfl rfl hl.1 (Nat.le_of_ble_eq_true rfl) dX10_menNear_26 (fun H locs hPD hS => ?_)
      obtain ⟨q_3, hq_3, h⟩ := ob2 h
      refine kSI (As := [.int q_2]) (rest := [.int l2]) C0 (kt_X10_bits l G  q_2 hq_3) gi_S_X10_244_X10_bits (n := 1) rfl (by decide +kernel) ⟨rfl, rfl, Nat.le_of_ble_eq_true rfl, Nat.le_of_ble_eq_true rfl⟩ hPD hS [] [0, 1, 2, 3, 4, 5, 6, 7, 8, 9, 10, 11, 12, 13, 14, 15, 16, 17, 18, 19, 20, 21, 22, 23, 24, 25, 26, 27, 28, 29, 30, 31, 32, 33] [0, 1, 2, 3, 4, 5, 6, 7, 8, 9, 10, 11, 12, 13, 14, 15, 16, 17, 18, 19, 20, 21, 22, 23, 24, 25, 26, 27, 28, 29, 30, 31, 32, 33] (wr := (wX10 G h0 a0 f0 A0)) (wN := (wX10 G h0 a0 f0 A0)) rfl rfl rfl rfl rfl hl.1 (Nat.le_of_ble_eq_true rfl) dX10_menNear_29 (fun H locs hPD hS => ?_)
      refine lv_iadd hx hb dX10_menNear_32 ?_
      refine lv_istore_n (lv' := [(2, .int (l2 + q_3)), (0, .ref h0), (1, .int p1), (3, .int l3)]) hx hb dX10_menNear_33 rfl hl (by decide) rfl (fun ls hl => ?_)
      refine lv_iinc (v := l3 + 1) (lv' := [(3, .int (l3 + 1)), (2, .int (l2 + q_3)), (0, .ref h0), (1, .int p1)]) hx hb dX10_menNear_34 hl (k := 3) rfl rfl (by decide) rfl (fun ls hl => ?_)
      refine lv_goto (tgt := 4) hx hb dX10_menNear_37 (by decide) ?_
      exact hk4 (l2 + q_3) (l3 + 1) h _ _ _ hPD hS (lv_sub hl [2, 3, 1, 0] rfl)
set_option maxRecDepth 100000 in
set_option maxHeartbeats 4000000 in
theorem ww_f10_menNear_l4  (C0 : Cx cX10_menNear 4 (some .int) RX10 p s m args meth c G DA) {h0 : Nat} {a0 : Nat → Nat} {f0 : Nat → Int32} {A0 : Nat → Nat → Int32} {p1 : Int32}   {res : Int32}  : ∀ (n : Nat) (l2 : Int32) (l3 : Int32), f10_menNear_l4 f0 A0 p1  n l2 l3 = some res → ∀ (H : Heap) (locs : List Loc) (ls : Array Slot), WD G DA (wX10 G h0 a0 f0 A0) H → va_S DA s.heap H locs → lv_has ls 4 [(0, .ref h0), (1, .int p1), (2, .int l2), (3, .int l3)] → W p l e rmX10_menNear s m args below meth c H locs 0 0 (MQ below (QI G DA res (wX10 G h0 a0 f0 A0)) args s 0 0 DA) (F0 m 4 ls []) := by
  intro n
  induction n with
  | zero => intro l2 l3 h; cases h
  | succ n ih => intro l2 l3 h; exact ww_f10_menNear_b4 C0  ih l2 l3 h
set_option maxRecDepth 100000 in
set_option maxHeartbeats 4000000 in
theorem kt_X10_menNear (l : Launch) (G : Gp) (h0 : Nat) (a0 : Nat → Nat) (f0 : Nat → Int32) (A0 : Nat → Nat → Int32) (p1 : Int32) : ∀ {r : Int32}, f10_menNear f0 A0 p1 = some r → CtrI l yX10_menNear cX10_menNear 4 (some .int) rmX10_menNear G [.ref h0, .int p1] (wX10 G h0 a0 f0 A0) r (wX10 G h0 a0 f0 A0) := by
  intro res h
  refine ctrI_of (cc := cX10_menNear) (maxL := 4) (ret := (some .int)) (by decide +kernel) rfl (Nat.le_of_ble_eq_true rfl) (fun p e s m below meth c DA C0 hP hD ls hl => ?_)
  have hPD : WD G DA (wX10 G h0 a0 f0 A0) s.heap := ⟨hP, hD⟩
  have hS : va_S DA s.heap s.heap [] := va_S.rf
  have hl : lv_has ls 4 [(0, .ref h0), (1, .int p1)] := hl
  obtain ⟨hx, hb, hml, hown, hts⟩ := C0.1
  have hK := C0.2.2.2.1
  unfold f10_menNear at h
  refine lv_iconst (v := 0) hx hb dX10_menNear_0 (by decide) ?_
  refine lv_istore_n (lv' := [(2, .int 0), (0, .ref h0), (1, .int p1)]) hx hb dX10_menNear_1 rfl hl (by decide) rfl (fun ls hl => ?_)
  refine lv_iconst (v := 0) hx hb dX10_menNear_2 (by decide) ?_
  refine lv_istore_n (lv' := [(3, .int 0), (2, .int 0), (0, .ref h0), (1, .int p1)]) hx hb dX10_menNear_3 rfl hl (by decide) rfl (fun ls hl => ?_)
  exact ww_f10_menNear_l4 C0 NF 0 0 h _ _ _ hPD hS (lv_sub hl [2, 3, 1, 0] rfl)
abbrev rmX10_feels : Room := { frames := 4, cells := 0, slots := 0, locals := 89 }
set_option maxRecDepth 100000 in
set_option maxHeartbeats 4000000 in
theorem kt_X10_feels (l : Launch) (G : Gp) (h0 : Nat) (a0 : Nat → Nat) (f0 : Nat → Int32) (A0 : Nat → Nat → Int32) (p1 : Int32) : ∀ {r : (Nat → Nat → Int32)}, f10_feels f0 A0 p1 = some r → CtrV l yX10_feels cX10_feels 2 none rmX10_feels G [.ref h0, .int p1] (wX10 G h0 a0 f0 A0) (wX10 G h0 a0 f0 r) := by
  intro res h
  refine ctrV_of (cc := cX10_feels) (maxL := 2) (ret := none) (by decide +kernel) rfl (Nat.le_of_ble_eq_true rfl) (fun p e s m below meth c DA C0 hP hD ls hl => ?_)
  have hPD : WD G DA (wX10 G h0 a0 f0 A0) s.heap := ⟨hP, hD⟩
  have hS : va_S DA s.heap s.heap [] := va_S.rf
  have hl : lv_has ls 2 [(0, .ref h0), (1, .int p1)] := hl
  obtain ⟨hx, hb, hml, hown, hts⟩ := C0.1
  have hK := C0.2.2.2.1
  unfold f10_feels at h
  refine lv_aload_n hx hb dX10_feels_0 rfl (lv_at hl 0 rfl) ?_
  refine va_get (D := G.1) (ci := 10) (v := .ref (a0 30)) (C := RX10) (T := TX10) (N := 52) hx hb hts inlX10 hown hK hPD.1 0 rfl rfl 30 (by decide) (hts _ gw_655) (fun _ h9 => h9) rfl dX10_feels_1 ?_
  refine lv_iconst (v := 0) hx hb dX10_feels_4 (by decide) ?_
  refine lv_iload_n hx hb dX10_feels_5 rfl (lv_at hl 1 rfl) ?_
  refine va_iast hx hb hK hPD.1 hPD.2 hS 20 1 rfl rfl (vin rfl) dX10_feels_6 (fun H locs hP hD hS => ?_)
  obtain ⟨A0_1, eA0_1, h⟩ := lvl h
  have hPD : WD G DA (wX10 G h0 a0 f0 A0_1) H := by rw [eA0_1]; exact ⟨hP, hD⟩
  clear eA0_1 hP hD
  refine lv_aload_n hx hb dX10_feels_7 rfl (lv_at hl 0 rfl) ?_
  refine va_get (D := G.1) (ci := 10) (v := .ref (a0 30)) (C := RX10) (T := TX10) (N := 52) hx hb hts inlX10 hown hK hPD.1 0 rfl rfl 30 (by decide) (hts _ gw_655) (fun _ h9 => h9) rfl dX10_feels_8 ?_
  refine lv_iconst (v := 1) hx hb dX10_feels_11 (by decide) ?_
  refine lv_aload_n hx hb dX10_feels_12 rfl (lv_at hl 0 rfl) ?_
  refine va_get (D := G.1) (ci := 10) (v := .ref (a0 0)) (C := RX10) (T := TX10) (N := 52) hx hb hts inlX10 hown hK hPD.1 0 rfl rfl 0 (by decide) (hts _ gw_536) (fun _ h9 => h9) rfl dX10_feels_13 ?_
  refine lv_iconst (v := 0) hx hb dX10_feels_16 (by decide) ?_
  refine lv_iload_n hx hb dX10_feels_17 rfl (lv_at hl 1 rfl) ?_
  refine lv_iadd hx hb dX10_feels_18 ?_
  obtain ⟨hi_2, h⟩ := ob h
  refine va_iald hx hb hK hPD.1 1 1 rfl rfl hi_2 dX10_feels_19 ?_
  refine va_iast hx hb hK hPD.1 hPD.2 hS 20 1 rfl rfl (vin rfl) dX10_feels_20 (fun H locs hP hD hS => ?_)
  obtain ⟨A0_3, eA0_3, h⟩ := lvl h
  have hPD : WD G DA (wX10 G h0 a0 f0 A0_3) H := by rw [eA0_3]; exact ⟨hP, hD⟩
  clear eA0_3 hP hD
  refine lv_aload_n hx hb dX10_feels_21 rfl (lv_at hl 0 rfl) ?_
  refine va_get (D := G.1) (ci := 10) (v := .ref (a0 30)) (C := RX10) (T := TX10) (N := 52) hx hb hts inlX10 hown hK hPD.1 0 rfl rfl 30 (by decide) (hts _ gw_655) (fun _ h9 => h9) rfl dX10_feels_22 ?_
  refine lv_iconst (v := 2) hx hb dX10_feels_25 (by decide) ?_
  refine lv_aload_n hx hb dX10_feels_26 rfl (lv_at hl 0 rfl) ?_
  refine va_get (D := G.1) (ci := 10) (v := .ref (a0 0)) (C := RX10) (T := TX10) (N := 52) hx hb hts inlX10 hown hK hPD.1 0 rfl rfl 0 (by decide) (hts _ gw_536) (fun _ h9 => h9) rfl dX10_feels_27 ?_
  refine lv_bipush (v := 16) hx hb dX10_feels_30 (by decide) ?_
  refine lv_iload_n hx hb dX10_feels_32 rfl (lv_at hl 1 rfl) ?_
  refine lv_iadd hx hb dX10_feels_33 ?_
  obtain ⟨hi_4, h⟩ := ob h
  refine va_iald hx hb hK hPD.1 1 1 rfl rfl hi_4 dX10_feels_34 ?_
  refine va_iast hx hb hK hPD.1 hPD.2 hS 20 1 rfl rfl (vin rfl) dX10_feels_35 (fun H locs hP hD hS => ?_)
  obtain ⟨A0_5, eA0_5, h⟩ := lvl h
  have hPD : WD G DA (wX10 G h0 a0 f0 A0_5) H := by rw [eA0_5]; exact ⟨hP, hD⟩
  clear eA0_5 hP hD
  refine lv_aload_n hx hb dX10_feels_36 rfl (lv_at hl 0 rfl) ?_
  refine va_get (D := G.1) (ci := 10) (v := .ref (a0 30)) (C := RX10) (T := TX10) (N := 52) hx hb hts inlX10 hown hK hPD.1 0 rfl rfl 30 (by decide) (hts _ gw_655) (fun _ h9 => h9) rfl dX10_feels_37 ?_
  refine lv_iconst (v := 3) hx hb dX10_feels_40 (by decide) ?_
  refine lv_aload_n hx hb dX10_feels_41 rfl (lv_at hl 0 rfl) ?_
  refine lv_iload_n hx hb dX10_feels_42 rfl (lv_at hl 1 rfl) ?_
  obtain ⟨q_6, hq_6, h⟩ := ob2 h
  refine kVI (As := [.int p1]) (rest := [.int 3, .ref (a0 30)]) C0 (kt_X10_menAt l G h0 a0 f0 A0_5 p1 hq_6) gi_V_X10_241_X10_menAt (n := 1) rfl (by decide +kernel) rfl ⟨rfl, rfl, Nat.le_of_ble_eq_true rfl, Nat.le_of_ble_eq_true rfl⟩ hPD hS 0 10 rfl rfl rfl [0, 1, 2, 3, 4, 5, 6, 7, 8, 9, 10, 11, 12, 13, 14, 15, 16, 17, 18, 19, 20, 21, 22, 23, 24, 25, 26, 27, 28, 29, 30, 31, 32, 33] [] [0, 1, 2, 3, 4, 5, 6, 7, 8, 9, 10, 11, 12, 13, 14, 15, 16, 17, 18, 19, 20, 21, 22, 23, 24, 25, 26, 27, 28, 29, 30, 31, 32, 33] (wr := ([] : va_W)) (wN := (wX10 G h0 a0 f0 A0_5)) rfl rfl rfl rfl rfl hl.1 (Nat.le_of_ble_eq_true rfl) dX10_feels_43 (fun H locs hPD hS => ?_)
  obtain ⟨q_7, hq_7, h⟩ := ob2 h
  refine kSI (As := [.int q_6]) (rest := [.int 3, .ref (a0 30)]) C0 (kt_X10_bits l G  q_6 hq_7) gi_S_X10_244_X10_bits (n := 1) rfl (by decide +kernel) ⟨rfl, rfl, Nat.le_of_ble_eq_true rfl, Nat.le_of_ble_eq_true rfl⟩ hPD hS [] [0, 1, 2, 3, 4, 5, 6, 7, 8, 9, 10, 11, 12, 13, 14, 15, 16, 17, 18, 19, 20, 21, 22, 23, 24, 25, 26, 27, 28, 29, 30, 31, 32, 33] [0, 1, 2, 3, 4, 5, 6, 7, 8, 9, 10, 11, 12, 13, 14, 15, 16, 17, 18, 19, 20, 21, 22, 23, 24, 25, 26, 27, 28, 29, 30, 31, 32, 33] (wr := (wX10 G h0 a0 f0 A0_5)) (wN := (wX10 G h0 a0 f0 A0_5)) rfl rfl rfl rfl rfl hl.1 (Nat.le_of_ble_eq_true rfl) dX10_feels_46 (fun H locs hPD hS => ?_)
  refine va_iast hx hb hK hPD.1 hPD.2 hS 20 1 rfl rfl (vin rfl) dX10_feels_49 (fun H locs hP hD hS => ?_)
  obtain ⟨A0_8, eA0_8, h⟩ := lvl h
  have hPD : WD G DA (wX10 G h0 a0 f0 A0_8) H := by rw [eA0_8]; exact ⟨hP, hD⟩
  clear eA0_8 hP hD
  refine lv_aload_n hx hb dX10_feels_50 rfl (lv_at hl 0 rfl) ?_
  refine va_get (D := G.1) (ci := 10) (v := .ref (a0 30)) (C := RX10) (T := TX10) (N := 52) hx hb hts inlX10 hown hK hPD.1 0 rfl rfl 30 (by decide) (hts _ gw_655) (fun _ h9 => h9) rfl dX10_feels_51 ?_
  refine lv_iconst (v := 4) hx hb dX10_feels_54 (by decide) ?_
  refine lv_aload_n hx hb dX10_feels_55 rfl (lv_at hl 0 rfl) ?_
  refine lv_iload_n hx hb dX10_feels_56 rfl (lv_at hl 1 rfl) ?_
  obtain ⟨q_9, hq_9, h⟩ := ob2 h
  refine kVI (As := [.int p1]) (rest := [.int 4, .ref (a0 30)]) C0 (kt_X10_menNear l G h0 a0 f0 A0_8 p1 hq_9) gi_V_X10_247_X10_menNear (n := 1) rfl (by decide +kernel) rfl ⟨rfl, rfl, Nat.le_of_ble_eq_true rfl, Nat.le_of_ble_eq_true rfl⟩ hPD hS 0 10 rfl rfl rfl [0, 1, 2, 3, 4, 5, 6, 7, 8, 9, 10, 11, 12, 13, 14, 15, 16, 17, 18, 19, 20, 21, 22, 23, 24, 25, 26, 27, 28, 29, 30, 31, 32, 33] [] [0, 1, 2, 3, 4, 5, 6, 7, 8, 9, 10, 11, 12, 13, 14, 15, 16, 17, 18, 19, 20, 21, 22, 23, 24, 25, 26, 27, 28, 29, 30, 31, 32, 33] (wr := ([] : va_W)) (wN := (wX10 G h0 a0 f0 A0_8)) rfl rfl rfl rfl rfl hl.1 (Nat.le_of_ble_eq_true rfl) dX10_feels_57 (fun H locs hPD hS => ?_)
  refine va_iast hx hb hK hPD.1 hPD.2 hS 20 1 rfl rfl (vin rfl) dX10_feels_60 (fun H locs hP hD hS => ?_)
  obtain ⟨A0_10, eA0_10, h⟩ := lvl h
  have hPD : WD G DA (wX10 G h0 a0 f0 A0_10) H := by rw [eA0_10]; exact ⟨hP, hD⟩
  clear eA0_10 hP hD
  refine lv_aload_n hx hb dX10_feels_61 rfl (lv_at hl 0 rfl) ?_
  refine va_get (D := G.1) (ci := 10) (v := .ref (a0 30)) (C := RX10) (T := TX10) (N := 52) hx hb hts inlX10 hown hK hPD.1 0 rfl rfl 30 (by decide) (hts _ gw_655) (fun _ h9 => h9) rfl dX10_feels_62 ?_
  refine lv_iconst (v := 5) hx hb dX10_feels_65 (by decide) ?_
  refine lv_aload_n hx hb dX10_feels_66 rfl (lv_at hl 0 rfl) ?_
  refine va_get (D := G.1) (ci := 10) (v := .ref (a0 0)) (C := RX10) (T := TX10) (N := 52) hx hb hts inlX10 hown hK hPD.1 0 rfl rfl 0 (by decide) (hts _ gw_536) (fun _ h9 => h9) rfl dX10_feels_67 ?_
  refine lv_bipush (v := 32) hx hb dX10_feels_70 (by decide) ?_
  refine lv_iload_n hx hb dX10_feels_72 rfl (lv_at hl 1 rfl) ?_
  refine lv_iadd hx hb dX10_feels_73 ?_
  obtain ⟨hi_11, h⟩ := ob h
  refine va_iald hx hb hK hPD.1 1 1 rfl rfl hi_11 dX10_feels_74 ?_
  refine va_iast hx hb hK hPD.1 hPD.2 hS 20 1 rfl rfl (vin rfl) dX10_feels_75 (fun H locs hP hD hS => ?_)
  obtain ⟨A0_12, eA0_12, h⟩ := lvl h
  have hPD : WD G DA (wX10 G h0 a0 f0 A0_12) H := by rw [eA0_12]; exact ⟨hP, hD⟩
  clear eA0_12 hP hD
  refine lv_aload_n hx hb dX10_feels_76 rfl (lv_at hl 0 rfl) ?_
  refine va_get (D := G.1) (ci := 10) (v := .ref (a0 30)) (C := RX10) (T := TX10) (N := 52) hx hb hts inlX10 hown hK hPD.1 0 rfl rfl 30 (by decide) (hts _ gw_655) (fun _ h9 => h9) rfl dX10_feels_77 ?_
  refine lv_bipush (v := 6) hx hb dX10_feels_80 (by decide) ?_
  refine lv_aload_n hx hb dX10_feels_82 rfl (lv_at hl 0 rfl) ?_
  refine va_get (D := G.1) (ci := 10) (v := .ref (a0 0)) (C := RX10) (T := TX10) (N := 52) hx hb hts inlX10 hown hK hPD.1 0 rfl rfl 0 (by decide) (hts _ gw_536) (fun _ h9 => h9) rfl dX10_feels_83 ?_
  refine lv_bipush (v := 74) hx hb dX10_feels_86 (by decide) ?_
  refine va_iald hx hb hK hPD.1 1 1 rfl rfl (vin rfl) dX10_feels_88 ?_
  refine lv_bipush (v := 24) hx hb dX10_feels_89 (by decide) ?_
  refine lv_irem hx hb dX10_feels_91 (by decide) ?_
  refine va_iast hx hb hK hPD.1 hPD.2 hS 20 1 rfl rfl (vin rfl) dX10_feels_92 (fun H locs hP hD hS => ?_)
  obtain ⟨A0_13, eA0_13, h⟩ := lvl h
  have hPD : WD G DA (wX10 G h0 a0 f0 A0_13) H := by rw [eA0_13]; exact ⟨hP, hD⟩
  clear eA0_13 hP hD
  refine lv_aload_n hx hb dX10_feels_93 rfl (lv_at hl 0 rfl) ?_
  refine va_get (D := G.1) (ci := 10) (v := .ref (a0 30)) (C := RX10) (T := TX10) (N := 52) hx hb hts inlX10 hown hK hPD.1 0 rfl rfl 30 (by decide) (hts _ gw_655) (fun _ h9 => h9) rfl dX10_feels_94 ?_
  refine lv_bipush (v := 7) hx hb dX10_feels_97 (by decide) ?_
  refine lv_aload_n hx hb dX10_feels_99 rfl (lv_at hl 0 rfl) ?_
  refine va_get (D := G.1) (ci := 10) (v := .ref (a0 0)) (C := RX10) (T := TX10) (N := 52) hx hb hts inlX10 hown hK hPD.1 0 rfl rfl 0 (by decide) (hts _ gw_536) (fun _ h9 => h9) rfl dX10_feels_100 ?_
  refine lv_bipush (v := 73) hx hb dX10_feels_103 (by decide) ?_
  refine va_iald hx hb hK hPD.1 1 1 rfl rfl (vin rfl) dX10_feels_105 ?_
  refine va_iast hx hb hK hPD.1 hPD.2 hS 20 1 rfl rfl (vin rfl) dX10_feels_106 (fun H locs hP hD hS => ?_)
  obtain ⟨A0_14, eA0_14, h⟩ := lvl h
  have hPD : WD G DA (wX10 G h0 a0 f0 A0_14) H := by rw [eA0_14]; exact ⟨hP, hD⟩
  clear eA0_14 hP hD
  obtain rfl := Option.some.inj h
  exact eV C0 hPD.1 hPD.2 hS dX10_feels_107
abbrev rmX10_readsTimes : Room := { frames := 1, cells := 0, slots := 0, locals := 22 }
set_option maxRecDepth 100000 in
set_option maxHeartbeats 4000000 in
theorem kt_X10_readsTimes (l : Launch) (G : Gp) (h0 : Nat) (a0 : Nat → Nat) (f0 : Nat → Int32) (A0 : Nat → Nat → Int32) : ∀ {r : (Nat → Int32)}, f10_readsTimes f0 A0 = some r → CtrV l yX10_readsTimes cX10_readsTimes 1 none rmX10_readsTimes G [.ref h0] (wX10 G h0 a0 f0 A0) (wX10 G h0 a0 r A0) := by
  intro res h
  refine ctrV_of (cc := cX10_readsTimes) (maxL := 1) (ret := none) (by decide +kernel) rfl (Nat.le_of_ble_eq_true rfl) (fun p e s m below meth c DA C0 hP hD ls hl => ?_)
  have hPD : WD G DA (wX10 G h0 a0 f0 A0) s.heap := ⟨hP, hD⟩
  have hS : va_S DA s.heap s.heap [] := va_S.rf
  have hl : lv_has ls 1 [(0, .ref h0)] := hl
  obtain ⟨hx, hb, hml, hown, hts⟩ := C0.1
  have hK := C0.2.2.2.1
  unfold f10_readsTimes at h
  refine lv_aload_n hx hb dX10_readsTimes_0 rfl (lv_at hl 0 rfl) ?_
  refine lv_aload_n hx hb dX10_readsTimes_1 rfl (lv_at hl 0 rfl) ?_
  refine va_get (D := G.1) (ci := 10) (v := .int (f0 9)) (C := RX10) (T := TX10) (N := 52) hx hb hts inlX10 hown hK hPD.1 0 rfl rfl 9 (by decide) (hts _ gw_551) (fun _ h9 => h9) rfl dX10_readsTimes_2 ?_
  refine va_put (D := G.1) (ci := 10) (v := .int (f0 9)) (ty := .int) (C := RX10) (T := TX10) (N := 52) hx hb hts inlX10 tyX10 tyX10_ok nmX10 hown hK hPD.1 hPD.2 hS 0 rfl rfl 37 (by decide) (hts _ gw_675) (fun _ h9 => h9) rfl (by decide +kernel) rfl rfl (Nat.le_of_ble_eq_true rfl) dX10_readsTimes_5 (fun H locs hP hD hS => ?_)
  obtain ⟨f0_1, ef0_1, h⟩ := lvl h
  have hPD : WD G DA (wX10 G h0 a0 f0_1 A0) H := by rw [ef0_1]; exact ⟨hP, hD⟩
  clear ef0_1 hP hD
  refine lv_aload_n hx hb dX10_readsTimes_8 rfl (lv_at hl 0 rfl) ?_
  refine lv_iconst (v := 1) hx hb dX10_readsTimes_9 (by decide) ?_
  refine va_put (D := G.1) (ci := 10) (v := .int 1) (ty := .int) (C := RX10) (T := TX10) (N := 52) hx hb hts inlX10 tyX10 tyX10_ok nmX10 hown hK hPD.1 hPD.2 hS 0 rfl rfl 38 (by decide) (hts _ gw_676) (fun _ h9 => h9) rfl (by decide +kernel) rfl rfl (Nat.le_of_ble_eq_true rfl) dX10_readsTimes_10 (fun H locs hP hD hS => ?_)
  obtain ⟨f0_2, ef0_2, h⟩ := lvl h
  have hPD : WD G DA (wX10 G h0 a0 f0_2 A0) H := by rw [ef0_2]; exact ⟨hP, hD⟩
  clear ef0_2 hP hD
  refine lv_aload_n hx hb dX10_readsTimes_13 rfl (lv_at hl 0 rfl) ?_
  obtain ⟨q_3, hq_3, h⟩ := ob2 h
  refine kVI (As := []) (rest := []) C0 (kt_X10_here l G h0 a0 f0_2 A0 hq_3) gi_V_X10_144_X10_here (n := 0) rfl (by decide +kernel) rfl ⟨rfl, rfl, Nat.le_of_ble_eq_true rfl, Nat.le_of_ble_eq_true rfl⟩ hPD hS 0 10 rfl rfl rfl [0, 1, 2, 3, 4, 5, 6, 7, 8, 9, 10, 11, 12, 13, 14, 15, 16, 17, 18, 19, 20, 21, 22, 23, 24, 25, 26, 27, 28, 29, 30, 31, 32, 33] [] [0, 1, 2, 3, 4, 5, 6, 7, 8, 9, 10, 11, 12, 13, 14, 15, 16, 17, 18, 19, 20, 21, 22, 23, 24, 25, 26, 27, 28, 29, 30, 31, 32, 33] (wr := ([] : va_W)) (wN := (wX10 G h0 a0 f0_2 A0)) rfl rfl rfl rfl rfl hl.1 (Nat.le_of_ble_eq_true rfl) dX10_readsTimes_14 (fun H locs hPD hS => ?_)
  refine lv_bipush (v := 50) hx hb dX10_readsTimes_17 (by decide) ?_
  refine lv_bipush (v := 57) hx hb dX10_readsTimes_19 (by decide) ?_
  refine kSI (As := [.int q_3, .int 50, .int 57]) (rest := []) C0 (kt_X10_in l G  q_3 50 57) gi_S_X10_112_X10_in (n := 3) rfl (by decide +kernel) ⟨rfl, rfl, Nat.le_of_ble_eq_true rfl, Nat.le_of_ble_eq_true rfl⟩ hPD hS [] [0, 1, 2, 3, 4, 5, 6, 7, 8, 9, 10, 11, 12, 13, 14, 15, 16, 17, 18, 19, 20, 21, 22, 23, 24, 25, 26, 27, 28, 29, 30, 31, 32, 33] [0, 1, 2, 3, 4, 5, 6, 7, 8, 9, 10, 11, 12, 13, 14, 15, 16, 17, 18, 19, 20, 21, 22, 23, 24, 25, 26, 27, 28, 29, 30, 31, 32, 33] (wr := (wX10 G h0 a0 f0_2 A0)) (wN := (wX10 G h0 a0 f0_2 A0)) rfl rfl rfl rfl rfl hl.1 (Nat.le_of_ble_eq_true rfl) dX10_readsTimes_21 (fun H locs hPD hS => ?_)
  refine lv_if_ne (tgt := 28) hx hb dX10_readsTimes_24 (by decide) (fun cc1 => ?_) (fun cc1 => ?_)
  · have h := (if_neg cc1).symm.trans h
    refine lv_aload_n hx hb dX10_readsTimes_28 rfl (lv_at hl 0 rfl) ?_
    refine lv_aload_n hx hb dX10_readsTimes_29 rfl (lv_at hl 0 rfl) ?_
    obtain ⟨q_4, hq_4, h⟩ := ob2 h
    refine kVI (As := []) (rest := [.ref h0]) C0 (kt_X10_here l G h0 a0 f0_2 A0 hq_4) gi_V_X10_144_X10_here (n := 0) rfl (by decide +kernel) rfl ⟨rfl, rfl, Nat.le_of_ble_eq_true rfl, Nat.le_of_ble_eq_true rfl⟩ hPD hS 0 10 rfl rfl rfl [0, 1, 2, 3, 4, 5, 6, 7, 8, 9, 10, 11, 12, 13, 14, 15, 16, 17, 18, 19, 20, 21, 22, 23, 24, 25, 26, 27, 28, 29, 30, 31, 32, 33] [] [0, 1, 2, 3, 4, 5, 6, 7, 8, 9, 10, 11, 12, 13, 14, 15, 16, 17, 18, 19, 20, 21, 22, 23, 24, 25, 26, 27, 28, 29, 30, 31, 32, 33] (wr := ([] : va_W)) (wN := (wX10 G h0 a0 f0_2 A0)) rfl rfl rfl rfl rfl hl.1 (Nat.le_of_ble_eq_true rfl) dX10_readsTimes_30 (fun H locs hPD hS => ?_)
    refine lv_bipush (v := 48) hx hb dX10_readsTimes_33 (by decide) ?_
    refine lv_isub hx hb dX10_readsTimes_35 ?_
    refine va_put (D := G.1) (ci := 10) (v := .int (q_4 - 48)) (ty := .int) (C := RX10) (T := TX10) (N := 52) hx hb hts inlX10 tyX10 tyX10_ok nmX10 hown hK hPD.1 hPD.2 hS 0 rfl rfl 38 (by decide) (hts _ gw_676) (fun _ h9 => h9) rfl (by decide +kernel) rfl rfl (Nat.le_of_ble_eq_true rfl) dX10_readsTimes_36 (fun H locs hP hD hS => ?_)
    obtain ⟨f0_5, ef0_5, h⟩ := lvl h
    have hPD : WD G DA (wX10 G h0 a0 f0_5 A0) H := by rw [ef0_5]; exact ⟨hP, hD⟩
    clear ef0_5 hP hD
    refine lv_aload_n hx hb dX10_readsTimes_39 rfl (lv_at hl 0 rfl) ?_
    refine lv_aload_n hx hb dX10_readsTimes_40 rfl (lv_at hl 0 rfl) ?_
    refine va_get (D := G.1) (ci := 10) (v := .int (f0_5 9)) (C := RX10) (T := TX10) (N := 52) hx hb hts inlX10 hown hK hPD.1 0 rfl rfl 9 (by decide) (hts _ gw_551) (fun _ h9 => h9) rfl dX10_readsTimes_41 ?_
    refine lv_iconst (v := 1) hx hb dX10_readsTimes_44 (by decide) ?_
    refine lv_iadd hx hb dX10_readsTimes_45 ?_
    refine va_put (D := G.1) (ci := 10) (v := .int ((f0_5 9) + 1)) (ty := .int) (C := RX10) (T := TX10) (N := 52) hx hb hts inlX10 tyX10 tyX10_ok nmX10 hown hK hPD.1 hPD.2 hS 0 rfl rfl 9 (by decide) (hts _ gw_551) (fun _ h9 => h9) rfl (by decide +kernel) rfl rfl (Nat.le_of_ble_eq_true rfl) dX10_readsTimes_46 (fun H locs hP hD hS => ?_)
    obtain ⟨f0_6, ef0_6, h⟩ := lvl h
    have hPD : WD G DA (wX10 G h0 a0 f0_6 A0) H := by rw [ef0_6]; exact ⟨hP, hD⟩
    clear ef0_6 hP hD
    obtain rfl := Option.some.inj h
    exact eV C0 hPD.1 hPD.2 hS dX10_readsTimes_49
  · have h := (if_pos cc1).symm.trans h
    obtain rfl := Option.some.inj h
    exact eV C0 hPD.1 hPD.2 hS dX10_readsTimes_27
abbrev rmX10_repeats : Room := { frames := 1, cells := 0, slots := 0, locals := 22 }
set_option maxRecDepth 100000 in
set_option maxHeartbeats 4000000 in
theorem ww_f10_repeats_b31  (C0 : Cx cX10_repeats 6 (some .boolean) RX10 p s m args meth c G DA) {h0 : Nat} {a0 : Nat → Nat} {p1 : Int32} {p2 : Int32} {p3 : Int32}  {k31 : (Nat → Nat → Int32) → (Nat → Int32) → Int32 → Int32 → Option (Int32 × (Nat → Nat → Int32) × (Nat → Int32))} {res : Int32 × (Nat → Nat → Int32) × (Nat → Int32)}  (hk31 : ∀ (A0 : Nat → Nat → Int32) (f0 : Nat → Int32) (l4 : Int32) (l5 : Int32), k31 A0 f0 l4 l5 = some res → ∀ (H : Heap) (locs : List Loc) (ls : Array Slot), WD G DA (wX10 G h0 a0 f0 A0) H → va_S DA s.heap H locs → lv_has ls 6 [(0, .ref h0), (1, .int p1), (2, .int p2), (3, .int p3), (4, .int l4), (5, .int l5)] → W p l e rmX10_repeats s m args below meth c H locs 0 0 (MQ below (QI G DA res.1 (wX10 G h0 a0 res.2.2 res.2.1)) args s 0 0 DA) (F0 m 31 ls [])) : ∀ (A0 : Nat → Nat → Int32) (f0 : Nat → Int32) (l4 : Int32) (l5 : Int32), f10_repeats_b31 p1 p2 p3  k31 A0 f0 l4 l5 = some res → ∀ (H : Heap) (locs : List Loc) (ls : Array Slot), WD G DA (wX10 G h0 a0 f0 A0) H → va_S DA s.heap H locs → lv_has ls 6 [(0, .ref h0), (1, .int p1), (2, .int p2), (3, .int p3), (4, .int l4), (5, .int l5)] → W p l e rmX10_repeats s m args below meth c H locs 0 0 (MQ below (QI G DA res.1 (wX10 G h0 a0 res.2.2 res.2.1)) args s 0 0 DA) (F0 m 31 ls []) := by
  obtain ⟨hx, hb, hml, hown, hts⟩ := C0.1
  have hK := C0.2.2.2.1
  intro A0 f0 l4 l5 h _ _ _ hPD hS hl
  unfold f10_repeats_b31 at h
  refine lv_iload hx hb dX10_repeats_31 (lv_at hl 5 rfl) ?_
  refine lv_iload hx hb dX10_repeats_33 (lv_at hl 4 rfl) ?_
  refine lv_iload_n hx hb dX10_repeats_35 rfl (lv_at hl 2 rfl) ?_
  refine lv_imul hx hb dX10_repeats_36 ?_
  refine lv_icmp_ge (tgt := 67) hx hb dX10_repeats_37 (by decide) (fun cc1 => ?_) (fun cc1 => ?_)
  · have h := (if_pos cc1).symm.trans h
    refine lv_aload_n hx hb dX10_repeats_67 rfl (lv_at hl 0 rfl) ?_
    refine lv_iload_n hx hb dX10_repeats_68 rfl (lv_at hl 1 rfl) ?_
    refine lv_iload hx hb dX10_repeats_69 (lv_at hl 4 rfl) ?_
    refine lv_iload_n hx hb dX10_repeats_71 rfl (lv_at hl 2 rfl) ?_
    refine lv_imul hx hb dX10_repeats_72 ?_
    refine lv_iadd hx hb dX10_repeats_73 ?_
    refine va_put (D := G.1) (ci := 10) (v := .int (p1 + (l4 * p2))) (ty := .int) (C := RX10) (T := TX10) (N := 52) hx hb hts inlX10 tyX10 tyX10_ok nmX10 hown hK hPD.1 hPD.2 hS 0 rfl rfl 35 (by decide) (hts _ gw_677) (fun _ h9 => h9) rfl (by decide +kernel) rfl rfl (Nat.le_of_ble_eq_true rfl) dX10_repeats_74 (fun H locs hP hD hS => ?_)
    obtain ⟨f0_1, ef0_1, h⟩ := lvl h
    have hPD : WD G DA (wX10 G h0 a0 f0_1 A0) H := by rw [ef0_1]; exact ⟨hP, hD⟩
    clear ef0_1 hP hD
    refine lv_iconst (v := 1) hx hb dX10_repeats_77 (by decide) ?_
    obtain rfl := Option.some.inj h
    exact eZ C0 hPD.1 hPD.2 hS rfl rfl dX10_repeats_78
  · have h := (if_neg cc1).symm.trans h
    refine lv_aload_n hx hb dX10_repeats_40 rfl (lv_at hl 0 rfl) ?_
    refine va_get (D := G.1) (ci := 10) (v := .ref (a0 31)) (C := RX10) (T := TX10) (N := 52) hx hb hts inlX10 hown hK hPD.1 0 rfl rfl 31 (by decide) (hts _ gw_678) (fun _ h9 => h9) rfl dX10_repeats_41 ?_
    refine lv_iload_n hx hb dX10_repeats_44 rfl (lv_at hl 1 rfl) ?_
    refine lv_iload hx hb dX10_repeats_45 (lv_at hl 5 rfl) ?_
    refine lv_iadd hx hb dX10_repeats_47 ?_
    refine lv_aload_n hx hb dX10_repeats_48 rfl (lv_at hl 0 rfl) ?_
    refine va_get (D := G.1) (ci := 10) (v := .ref (a0 31)) (C := RX10) (T := TX10) (N := 52) hx hb hts inlX10 hown hK hPD.1 0 rfl rfl 31 (by decide) (hts _ gw_678) (fun _ h9 => h9) rfl dX10_repeats_49 ?_
    refine lv_iload_n hx hb dX10_repeats_52 rfl (lv_at hl 1 rfl) ?_
    refine lv_iload hx hb dX10_repeats_53 (lv_at hl 5 rfl) ?_
    refine lv_iadd hx hb dX10_repeats_55 ?_
    refine lv_iload hx hb dX10_repeats_56 (lv_at hl 4 rfl) ?_
    refine lv_isub hx hb dX10_repeats_58 ?_
    obtain ⟨hi_2, h⟩ := ob h
    refine va_iald hx hb hK hPD.1 21 1 rfl rfl hi_2 dX10_repeats_59 ?_
    obtain ⟨hi_3, h⟩ := ob h
    refine va_iast hx hb hK hPD.1 hPD.2 hS 21 1 rfl rfl hi_3 dX10_repeats_60 (fun H locs hP hD hS => ?_)
    obtain ⟨A0_4, eA0_4, h⟩ := lvl h
    have hPD : WD G DA (wX10 G h0 a0 f0 A0_4) H := by rw [eA0_4]; exact ⟨hP, hD⟩
    clear eA0_4 hP hD
    refine lv_iinc (v := l5 + 1) (lv' := [(5, .int (l5 + 1)), (0, .ref h0), (1, .int p1), (2, .int p2), (3, .int p3), (4, .int l4)]) hx hb dX10_repeats_61 hl (k := 5) rfl rfl (by decide) rfl (fun ls hl => ?_)
    refine lv_goto (tgt := 31) hx hb dX10_repeats_64 (by decide) ?_
    exact hk31 A0_4 f0 l4 (l5 + 1) h _ _ _ hPD hS (lv_sub hl [1, 2, 3, 4, 5, 0] rfl)
set_option maxRecDepth 100000 in
set_option maxHeartbeats 4000000 in
theorem ww_f10_repeats_l31  (C0 : Cx cX10_repeats 6 (some .boolean) RX10 p s m args meth c G DA) {h0 : Nat} {a0 : Nat → Nat} {p1 : Int32} {p2 : Int32} {p3 : Int32}   {res : Int32 × (Nat → Nat → Int32) × (Nat → Int32)}  : ∀ (n : Nat) (A0 : Nat → Nat → Int32) (f0 : Nat → Int32) (l4 : Int32) (l5 : Int32), f10_repeats_l31 p1 p2 p3  n A0 f0 l4 l5 = some res → ∀ (H : Heap) (locs : List Loc) (ls : Array Slot), WD G DA (wX10 G h0 a0 f0 A0) H → va_S DA s.heap H locs → lv_has ls 6 [(0, .ref h0), (1, .int p1), (2, .int p2), (3, .int p3), (4, .int l4), (5, .int l5)] → W p l e rmX10_repeats s m args below meth c H locs 0 0 (MQ below (QI G DA res.1 (wX10 G h0 a0 res.2.2 res.2.1)) args s 0 0 DA) (F0 m 31 ls []) := by
  intro n
  induction n with
  | zero => intro A0 f0 l4 l5 h; cases h
  | succ n ih => intro A0 f0 l4 l5 h; exact ww_f10_repeats_b31 C0  ih A0 f0 l4 l5 h
set_option maxRecDepth 100000 in
set_option maxHeartbeats 4000000 in
theorem kt_X10_repeats (l : Launch) (G : Gp) (h0 : Nat) (a0 : Nat → Nat) (f0 : Nat → Int32) (A0 : Nat → Nat → Int32) (p1 : Int32) (p2 : Int32) (p3 : Int32) : ∀ {r : Int32 × (Nat → Nat → Int32) × (Nat → Int32)}, f10_repeats f0 A0 p1 p2 p3 = some r → CtrI l yX10_repeats cX10_repeats 6 (some .boolean) rmX10_repeats G [.ref h0, .int p1, .int p2, .int p3] (wX10 G h0 a0 f0 A0) r.1 (wX10 G h0 a0 r.2.2 r.2.1) := by
  intro res h
  refine ctrI_of (cc := cX10_repeats) (maxL := 6) (ret := (some .boolean)) (by decide +kernel) rfl (Nat.le_of_ble_eq_true rfl) (fun p e s m below meth c DA C0 hP hD ls hl => ?_)
  have hPD : WD G DA (wX10 G h0 a0 f0 A0) s.heap := ⟨hP, hD⟩
  have hS : va_S DA s.heap s.heap [] := va_S.rf
  have hl : lv_has ls 6 [(0, .ref h0), (1, .int p1), (2, .int p2), (3, .int p3)] := hl
  obtain ⟨hx, hb, hml, hown, hts⟩ := C0.1
  have hK := C0.2.2.2.1
  unfold f10_repeats at h
  refine lv_aload_n hx hb dX10_repeats_0 rfl (lv_at hl 0 rfl) ?_
  refine va_get (D := G.1) (ci := 10) (v := .int (f0 35)) (C := RX10) (T := TX10) (N := 52) hx hb hts inlX10 hown hK hPD.1 0 rfl rfl 35 (by decide) (hts _ gw_677) (fun _ h9 => h9) rfl dX10_repeats_1 ?_
  refine lv_iload_n hx hb dX10_repeats_4 rfl (lv_at hl 1 rfl) ?_
  refine lv_isub hx hb dX10_repeats_5 ?_
  refine lv_istore (lv' := [(4, .int ((f0 35) - p1)), (0, .ref h0), (1, .int p1), (2, .int p2), (3, .int p3)]) hx hb dX10_repeats_6 hl (by decide) rfl (fun ls hl => ?_)
  refine lv_iload_n hx hb dX10_repeats_8 rfl (lv_at hl 2 rfl) ?_
  refine lv_iload hx hb dX10_repeats_9 (lv_at hl 0 rfl) ?_
  refine lv_iload_n hx hb dX10_repeats_11 rfl (lv_at hl 3 rfl) ?_
  refine lv_imul hx hb dX10_repeats_12 ?_
  refine lv_iadd hx hb dX10_repeats_13 ?_
  refine lv_bipush (v := 48) hx hb dX10_repeats_14 (by decide) ?_
  refine lv_icmp_le (tgt := 27) hx hb dX10_repeats_16 (by decide) (fun cc1 => ?_) (fun cc1 => ?_)
  · have h := (if_pos cc1).symm.trans h
    refine lv_iload hx hb dX10_repeats_27 (lv_at hl 0 rfl) ?_
    refine lv_istore (lv' := [(5, .int ((f0 35) - p1)), (4, .int ((f0 35) - p1)), (0, .ref h0), (1, .int p1), (2, .int p2), (3, .int p3)]) hx hb dX10_repeats_29 hl (by decide) rfl (fun ls hl => ?_)
    exact ww_f10_repeats_l31 C0 NF A0 f0 ((f0 35) - p1) ((f0 35) - p1) h _ _ _ hPD hS (lv_sub hl [2, 3, 4, 5, 1, 0] rfl)
  · have h := (if_neg cc1).symm.trans h
    refine lv_aload_n hx hb dX10_repeats_19 rfl (lv_at hl 1 rfl) ?_
    refine lv_bipush (v := 6) hx hb dX10_repeats_20 (by decide) ?_
    refine lv_iload_n hx hb dX10_repeats_22 rfl (lv_at hl 4 rfl) ?_
    obtain ⟨q_5, hq_5, h⟩ := ob2 h
    refine kVI (As := [.int 6, .int p3]) (rest := []) C0 (kt_X10_wrongAt l G h0 a0 f0 A0 6 p3 hq_5) gi_V_X10_151_X10_wrongAt (n := 2) rfl (by decide +kernel) rfl ⟨rfl, rfl, Nat.le_of_ble_eq_true rfl, Nat.le_of_ble_eq_true rfl⟩ hPD hS 0 10 rfl rfl rfl [0, 1, 2, 3, 4, 5, 6, 7, 8, 9, 10, 11, 12, 13, 14, 15, 16, 17, 18, 19, 20, 21, 22, 23, 24, 25, 26, 27, 28, 29, 30, 31, 32, 33] [] [0, 1, 2, 3, 4, 5, 6, 7, 8, 9, 10, 11, 12, 13, 14, 15, 16, 17, 18, 19, 20, 21, 22, 23, 24, 25, 26, 27, 28, 29, 30, 31, 32, 33] (wr := ([] : va_W)) (wN := (wX10 G h0 a0 q_5.2 A0)) rfl rfl rfl rfl rfl hl.1 (Nat.le_of_ble_eq_true rfl) dX10_repeats_23 (fun H locs hPD hS => ?_)
    obtain ⟨hz, h⟩ := ob h
    obtain rfl := Option.some.inj h
    exact eZ C0 hPD.1 hPD.2 hS rfl (nbool (Classical.not_not.mp hz)) dX10_repeats_26
end WALK
