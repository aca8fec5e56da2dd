section WALK
variable {p : Program} {l : Launch} {e : Env} {s : State} {m : MethodId} {args : Array Value} {below : List Frame} {meth : Method} {c : Code} {G : Gp} {DA : Nat → Prop}
abbrev rmX10_readsTimes : Room := { frames := 1, cells := 0, slots := 0, locals := 22 }
set_option maxRecDepth 100000 in
set_option maxHeartbeats 4000000 in
theorem kt_X10_readsTimes (l : Launch) (G : Gp) (h0 : Nat) (a0 : Nat → Nat) (f0 : Nat → Int32) (A0 : Nat → Nat → Int32) : ∀ {r : (Nat → Int32)}, f10_readsTimes f0 A0 = some r → CtrV l yX10_readsTimes cX10_readsTimes 1 none rmX10_readsTimes G [.ref h0] (wX10 G h0 a0 f0 A0) (wX10 G h0 a0 r A0) := by
  intro res h
  refine ctrV_of (cc := cX10_readsTimes) (maxL := 1) (ret := none) (by decide +kernel) rfl (Nat.le_of_ble_eq_true rfl) (fun p e s m below meth c DA C0 hP hD ls hl => ?_)
  have hPD : WD G DA (wX10 G h0 a0 f0 A0) s.heap := ⟨hP, hD⟩
  have hS : va_S DA s.heap s.heap [] := va_S.rf
  have hl : lv_has ls 1 [(0, .ref h0)] := hl
  obtain ⟨hx, hb, hml, hown, hts⟩ := C0.1
  have hK := C0.2.2.2.1
  unfold f10_readsTimes at h
  refine lv_aload_n hx hb dX10_readsTimes_0 rfl (lv_at hl 0 rfl) ?_
  refine lv_aload_n hx hb dX10_readsTimes_1 rfl (lv_at hl 0 rfl) ?_
  refine va_get (D := G.1) (ci := 10) (v := .int (f0 9)) (C := RX10) (T := TX10) (N := 52) hx hb hts inlX10 hown hK hPD.1 0 rfl rfl 9 (by decide) (hts _ gw_554) (fun _ h9 => h9) rfl dX10_readsTimes_2 ?_
  refine va_put (D := G.1) (ci := 10) (v := .int (f0 9)) (ty := .int) (C := RX10) (T := TX10) (N := 52) hx hb hts inlX10 tyX10 tyX10_ok nmX10 hown hK hPD.1 hPD.2 hS 0 rfl rfl 37 (by decide) (hts _ gw_678) (fun _ h9 => h9) rfl (by decide +kernel) rfl rfl (Nat.le_of_ble_eq_true rfl) dX10_readsTimes_5 (fun H locs hP hD hS => ?_)
  obtain ⟨f0_1, ef0_1, h⟩ := lvl h
  have hPD : WD G DA (wX10 G h0 a0 f0_1 A0) H := by rw [ef0_1]; exact ⟨hP, hD⟩
  clear ef0_1 hP hD
  refine lv_aload_n hx hb dX10_readsTimes_8 rfl (lv_at hl 0 rfl) ?_
  refine lv_iconst (v := 1) hx hb dX10_readsTimes_9 (by decide) ?_
  refine va_put (D := G.1) (ci := 10) (v := .int 1) (ty := .int) (C := RX10) (T := TX10) (N := 52) hx hb hts inlX10 tyX10 tyX10_ok nmX10 hown hK hPD.1 hPD.2 hS 0 rfl rfl 38 (by decide) (hts _ gw_679) (fun _ h9 => h9) rfl (by decide +kernel) rfl rfl (Nat.le_of_ble_eq_true rfl) dX10_readsTimes_10 (fun H locs hP hD hS => ?_)
  obtain ⟨f0_2, ef0_2, h⟩ := lvl h
  have hPD : WD G DA (wX10 G h0 a0 f0_2 A0) H := by rw [ef0_2]; exact ⟨hP, hD⟩
  clear ef0_2 hP hD
  refine lv_aload_n hx hb dX10_readsTimes_13 rfl (lv_at hl 0 rfl) ?_
  obtain ⟨q_3, hq_3, h⟩ := ob2 h
  refine kVI (As := []) (rest := []) C0 (kt_X10_here l G h0 a0 f0_2 A0 hq_3) gi_V_X10_144_X10_here (n := 0) rfl (by decide +kernel) rfl ⟨rfl, rfl, Nat.le_of_ble_eq_true rfl, Nat.le_of_ble_eq_true rfl⟩ hPD hS 0 10 rfl rfl rfl [0, 1, 2, 3, 4, 5, 6, 7, 8, 9, 10, 11, 12, 13, 14, 15, 16, 17, 18, 19, 20, 21, 22, 23, 24, 25, 26, 27, 28, 29, 30, 31, 32, 33] [] [0, 1, 2, 3, 4, 5, 6, 7, 8, 9, 10, 11, 12, 13, 14, 15, 16, 17, 18, 19, 20, 21, 22, 23, 24, 25, 26, 27, 28, 29, 30, 31, 32, 33] (wN := (wX10 G h0 a0 f0_2 A0)) rfl rfl rfl rfl rfl hl.1 (Nat.le_of_ble_eq_true rfl) dX10_readsTimes_14 (fun H locs hPD hS => ?_)
  refine lv_bipush (v := 50) hx hb dX10_readsTimes_17 (by decide) ?_
  refine lv_bipush (v := 57) hx hb dX10_readsTimes_19 (by decide) ?_
  refine kSI (As := [.int q_3, .int 50, .int 57]) (rest := []) C0 (kt_X10_in l G  q_3 50 57) gi_S_X10_112_X10_in (n := 3) rfl (by decide +kernel) ⟨rfl, rfl, Nat.le_of_ble_eq_true rfl, Nat.le_of_ble_eq_true rfl⟩ hPD hS [] [0, 1, 2, 3, 4, 5, 6, 7, 8, 9, 10, 11, 12, 13, 14, 15, 16, 17, 18, 19, 20, 21, 22, 23, 24, 25, 26, 27, 28, 29, 30, 31, 32, 33] [0, 1, 2, 3, 4, 5, 6, 7, 8, 9, 10, 11, 12, 13, 14, 15, 16, 17, 18, 19, 20, 21, 22, 23, 24, 25, 26, 27, 28, 29, 30, 31, 32, 33] (wN := (wX10 G h0 a0 f0_2 A0)) rfl rfl rfl rfl rfl hl.1 (Nat.le_of_ble_eq_true rfl) dX10_readsTimes_21 (fun H locs hPD hS => ?_)
  refine lv_if_ne (tgt := 28) hx hb dX10_readsTimes_24 (by decide) (fun cc1 => ?_) (fun cc1 => ?_)
  · have h := (if_neg cc1).symm.trans h
    refine lv_aload_n hx hb dX10_readsTimes_28 rfl (lv_at hl 0 rfl) ?_
    refine lv_aload_n hx hb dX10_readsTimes_29 rfl (lv_at hl 0 rfl) ?_
    obtain ⟨q_4, hq_4, h⟩ := ob2 h
    refine kVI (As := []) (rest := [.ref h0]) C0 (kt_X10_here l G h0 a0 f0_2 A0 hq_4) gi_V_X10_144_X10_here (n := 0) rfl (by decide +kernel) rfl ⟨rfl, rfl, Nat.le_of_ble_eq_true rfl, Nat.le_of_ble_eq_true rfl⟩ hPD hS 0 10 rfl rfl rfl [0, 1, 2, 3, 4, 5, 6, 7, 8, 9, 10, 11, 12, 13, 14, 15, 16, 17, 18, 19, 20, 21, 22, 23, 24, 25, 26, 27, 28, 29, 30, 31, 32, 33] [] [0, 1, 2, 3, 4, 5, 6, 7, 8, 9, 10, 11, 12, 13, 14, 15, 16, 17, 18, 19, 20, 21, 22, 23, 24, 25, 26, 27, 28, 29, 30, 31, 32, 33] (wN := (wX10 G h0 a0 f0_2 A0)) rfl rfl rfl rfl rfl hl.1 (Nat.le_of_ble_eq_true rfl) dX10_readsTimes_30 (fun H locs hPD hS => ?_)
    refine lv_bipush (v := 48) hx hb dX10_readsTimes_33 (by decide) ?_
    refine lv_isub hx hb dX10_readsTimes_35 ?_
    refine va_put (D := G.1) (ci := 10) (v := .int (q_4 - 48)) (ty := .int) (C := RX10) (T := TX10) (N := 52) hx hb hts inlX10 tyX10 tyX10_ok nmX10 hown hK hPD.1 hPD.2 hS 0 rfl rfl 38 (by decide) (hts _ gw_679) (fun _ h9 => h9) rfl (by decide +kernel) rfl rfl (Nat.le_of_ble_eq_true rfl) dX10_readsTimes_36 (fun H locs hP hD hS => ?_)
    obtain ⟨f0_5, ef0_5, h⟩ := lvl h
    have hPD : WD G DA (wX10 G h0 a0 f0_5 A0) H := by rw [ef0_5]; exact ⟨hP, hD⟩
    clear ef0_5 hP hD
    refine lv_aload_n hx hb dX10_readsTimes_39 rfl (lv_at hl 0 rfl) ?_
    refine lv_aload_n hx hb dX10_readsTimes_40 rfl (lv_at hl 0 rfl) ?_
    refine va_get (D := G.1) (ci := 10) (v := .int (f0_5 9)) (C := RX10) (T := TX10) (N := 52) hx hb hts inlX10 hown hK hPD.1 0 rfl rfl 9 (by decide) (hts _ gw_554) (fun _ h9 => h9) rfl dX10_readsTimes_41 ?_
    refine lv_iconst (v := 1) hx hb dX10_readsTimes_44 (by decide) ?_
    refine lv_iadd hx hb dX10_readsTimes_45 ?_
    refine va_put (D := G.1) (ci := 10) (v := .int ((f0_5 9) + 1)) (ty := .int) (C := RX10) (T := TX10) (N := 52) hx hb hts inlX10 tyX10 tyX10_ok nmX10 hown hK hPD.1 hPD.2 hS 0 rfl rfl 9 (by decide) (hts _ gw_554) (fun _ h9 => h9) rfl (by decide +kernel) rfl rfl (Nat.le_of_ble_eq_true rfl) dX10_readsTimes_46 (fun H locs hP hD hS => ?_)
    obtain ⟨f0_6, ef0_6, h⟩ := lvl h
    have hPD : WD G DA (wX10 G h0 a0 f0_6 A0) H := by rw [ef0_6]; exact ⟨hP, hD⟩
    clear ef0_6 hP hD
    obtain rfl := Option.some.inj h
    exact eV C0 hPD.1 hPD.2 hS dX10_readsTimes_49
  · have h := (if_pos cc1).symm.trans h
    obtain rfl := Option.some.inj h
    exact eV C0 hPD.1 hPD.2 hS dX10_readsTimes_27
abbrev rmX10_repeats : Room := { frames := 1, cells := 0, slots := 0, locals := 22 }
set_option maxRecDepth 100000 in
set_option maxHeartbeats 4000000 in
theorem ww_f10_repeats_b31  (C0 : Cx cX10_repeats 6 (some .boolean) RX10 p s m args meth c G DA) {h0 : Nat} {a0 : Nat → Nat} {p1 : Int32} {p2 : Int32} {p3 : Int32}  {k31 : (Nat → Nat → Int32) → (Nat → Int32) → Int32 → Int32 → Option (Int32 × (Nat → Nat → Int32) × (Nat → Int32))} {res : Int32 × (Nat → Nat → Int32) × (Nat → Int32)}  (hk31 : ∀ (A0 : Nat → Nat → Int32) (f0 : Nat → Int32) (l4 : Int32) (l5 : Int32), k31 A0 f0 l4 l5 = some res → ∀ (H : Heap) (locs : List Loc) (ls : Array Slot), WD G DA (wX10 G h0 a0 f0 A0) H → va_S DA s.heap H locs → lv_has ls 6 [(0, .ref h0), (1, .int p1), (2, .int p2), (3, .int p3), (4, .int l4), (5, .int l5)] → W p l e rmX10_repeats s m args below meth c H locs 0 0 (MQ below (QI G DA res.1 (wX10 G h0 a0 res.2.2 res.2.1)) args s 0 0 DA) (F0 m 31 ls [])) : ∀ (A0 : Nat → Nat → Int32) (f0 : Nat → Int32) (l4 : Int32) (l5 : Int32), f10_repeats_b31 p1 p2 p3  k31 A0 f0 l4 l5 = some res → ∀ (H : Heap) (locs : List Loc) (ls : Array Slot), WD G DA (wX10 G h0 a0 f0 A0) H → va_S DA s.heap H locs → lv_has ls 6 [(0, .ref h0), (1, .int p1), (2, .int p2), (3, .int p3), (4, .int l4), (5, .int l5)] → W p l e rmX10_repeats s m args below meth c H locs 0 0 (MQ below (QI G DA res.1 (wX10 G h0 a0 res.2.2 res.2.1)) args s 0 0 DA) (F0 m 31 ls []) := by
  obtain ⟨hx, hb, hml, hown, hts⟩ := C0.1
  have hK := C0.2.2.2.1
  intro A0 f0 l4 l5 h _ _ _ hPD hS hl
  unfold f10_repeats_b31 at h
  refine lv_iload hx hb dX10_repeats_31 (lv_at hl 5 rfl) ?_
  refine lv_iload hx hb dX10_repeats_33 (lv_at hl 4 rfl) ?_
  refine lv_iload_n hx hb dX10_repeats_35 rfl (lv_at hl 2 rfl) ?_
  refine lv_imul hx hb dX10_repeats_36 ?_
  refine lv_icmp_ge (tgt := 67) hx hb dX10_repeats_37 (by decide) (fun cc1 => ?_) (fun cc1 => ?_)
  · have h := (if_pos cc1).symm.trans h
    refine lv_aload_n hx hb dX10_repeats_67 rfl (lv_at hl 0 rfl) ?_
    refine lv_iload_n hx hb dX10_repeats_68 rfl (lv_at hl 1 rfl) ?_
    refine lv_iload hx hb dX10_repeats_69 (lv_at hl 4 rfl) ?_
    refine lv_iload_n hx hb dX10_repeats_71 rfl (lv_at hl 2 rfl) ?_
    refine lv_imul hx hb dX10_repeats_72 ?_
    refine lv_iadd hx hb dX10_repeats_73 ?_
    refine va_put (D := G.1) (ci := 10) (v := .int (p1 + (l4 * p2))) (ty := .int) (C := RX10) (T := TX10) (N := 52) hx hb hts inlX10 tyX10 tyX10_ok nmX10 hown hK hPD.1 hPD.2 hS 0 rfl rfl 35 (by decide) (hts _ gw_680) (fun _ h9 => h9) rfl (by decide +kernel) rfl rfl (Nat.le_of_ble_eq_true rfl) dX10_repeats_74 (fun H locs hP hD hS => ?_)
    obtain ⟨f0_1, ef0_1, h⟩ := lvl h
    have hPD : WD G DA (wX10 G h0 a0 f0_1 A0) H := by rw [ef0_1]; exact ⟨hP, hD⟩
    clear ef0_1 hP hD
    refine lv_iconst (v := 1) hx hb dX10_repeats_77 (by decide) ?_
    obtain rfl := Option.some.inj h
    exact eZ C0 hPD.1 hPD.2 hS rfl rfl dX10_repeats_78
  · have h := (if_neg cc1).symm.trans h
    refine lv_aload_n hx hb dX10_repeats_40 rfl (lv_at hl 0 rfl) ?_
    refine va_get (D := G.1) (ci := 10) (v := .ref (a0 31)) (C := RX10) (T := TX10) (N := 52) hx hb hts inlX10 hown hK hPD.1 0 rfl rfl 31 (by decide) (hts _ gw_681) (fun _ h9 => h9) rfl dX10_repeats_41 ?_
    refine lv_iload_n hx hb dX10_repeats_44 rfl (lv_at hl 1 rfl) ?_
    refine lv_iload hx hb dX10_repeats_45 (lv_at hl 5 rfl) ?_
    refine lv_iadd hx hb dX10_repeats_47 ?_
    refine lv_aload_n hx hb dX10_repeats_48 rfl (lv_at hl 0 rfl) ?_
    refine va_get (D := G.1) (ci := 10) (v := .ref (a0 31)) (C := RX10) (T := TX10) (N := 52) hx hb hts inlX10 hown hK hPD.1 0 rfl rfl 31 (by decide) (hts _ gw_681) (fun _ h9 => h9) rfl dX10_repeats_49 ?_
    refine lv_iload_n hx hb dX10_repeats_52 rfl (lv_at hl 1 rfl) ?_
    refine lv_iload hx hb dX10_repeats_53 (lv_at hl 5 rfl) ?_
    refine lv_iadd hx hb dX10_repeats_55 ?_
    refine lv_iload hx hb dX10_repeats_56 (lv_at hl 4 rfl) ?_
    refine lv_isub hx hb dX10_repeats_58 ?_
    obtain ⟨hi_2, h⟩ := ob h
    refine va_iald hx hb hK hPD.1 21 1 rfl rfl hi_2 dX10_repeats_59 ?_
    obtain ⟨hi_3, h⟩ := ob h
    refine va_iast hx hb hK hPD.1 hPD.2 hS 21 1 rfl rfl hi_3 dX10_repeats_60 (fun H locs hP hD hS => ?_)
    obtain ⟨A0_4, eA0_4, h⟩ := lvl h
    have hPD : WD G DA (wX10 G h0 a0 f0 A0_4) H := by rw [eA0_4]; exact ⟨hP, hD⟩
    clear eA0_4 hP hD
    refine lv_iinc (v := l5 + 1) (lv' := [(5, .int (l5 + 1)), (0, .ref h0), (1, .int p1), (2, .int p2), (3, .int p3), (4, .int l4)]) hx hb dX10_repeats_61 hl (k := 5) rfl rfl (by decide) rfl (fun ls hl => ?_)
    refine lv_goto (tgt := 31) hx hb dX10_repeats_64 (by decide) ?_
    exact hk31 A0_4 f0 l4 (l5 + 1) h _ _ _ hPD hS (lv_sub hl [1, 2, 3, 4, 5, 0] rfl)
set_option maxRecDepth 100000 in
set_option maxHeartbeats 4000000 in
theorem ww_f10_repeats_l31  (C0 : Cx cX10_repeats 6 (some .boolean) RX10 p s m args meth c G DA) {h0 : Nat} {a0 : Nat → Nat} {p1 : Int32} {p2 : Int32} {p3 : Int32}   {res : Int32 × (Nat → Nat → Int32) × (Nat → Int32)}  : ∀ (n : Nat) (A0 : Nat → Nat → Int32) (f0 : Nat → Int32) (l4 : Int32) (l5 : Int32), f10_repeats_l31 p1 p2 p3  n A0 f0 l4 l5 = some res → ∀ (H : Heap) (locs : List Loc) (ls : Array Slot), WD G DA (wX10 G h0 a0 f0 A0) H → va_S DA s.heap H locs → lv_has ls 6 [(0, .ref h0), (1, .int p1), (2, .int p2), (3, .int p3), (4, .int l4), (5, .int l5)] → W p l e rmX10_repeats s m args below meth c H locs 0 0 (MQ below (QI G DA res.1 (wX10 G h0 a0 res.2.2 res.2.1)) args s 0 0 DA) (F0 m 31 ls []) := by
  intro n
  induction n with
  | zero => intro A0 f0 l4 l5 h; cases h
  | succ n ih => intro A0 f0 l4 l5 h; exact ww_f10_repeats_b31 C0  ih A0 f0 l4 l5 h
set_option maxRecDepth 100000 in
set_option maxHeartbeats 4000000 in
theorem kt_X10_repeats (l : Launch) (G : Gp) (h0 : Nat) (a0 : Nat → Nat) (f0 : Nat → Int32) (A0 : Nat → Nat → Int32) (p1 : Int32) (p2 : Int32) (p3 : Int32) : ∀ {r : Int32 × (Nat → Nat → Int32) × (Nat → Int32)}, f10_repeats f0 A0 p1 p2 p3 = some r → CtrI l yX10_repeats cX10_repeats 6 (some .boolean) rmX10_repeats G [.ref h0, .int p1, .int p2, .int p3] (wX10 G h0 a0 f0 A0) r.1 (wX10 G h0 a0 r.2.2 r.2.1) := by
  intro res h
  refine ctrI_of (cc := cX10_repeats) (maxL := 6) (ret := (some .boolean)) (by decide +kernel) rfl (Nat.le_of_ble_eq_true rfl) (fun p e s m below meth c DA C0 hP hD ls hl => ?_)
  have hPD : WD G DA (wX10 G h0 a0 f0 A0) s.heap := ⟨hP, hD⟩
  have hS : va_S DA s.heap s.heap [] := va_S.rf
  have hl : lv_has ls 6 [(0, .ref h0), (1, .int p1), (2, .int p2), (3, .int p3)] := hl
  obtain ⟨hx, hb, hml, hown, hts⟩ := C0.1
  have hK := C0.2.2.2.1
  unfold f10_repeats at h
  refine lv_aload_n hx hb dX10_repeats_0 rfl (lv_at hl 0 rfl) ?_
  refine va_get (D := G.1) (ci := 10) (v := .int (f0 35)) (C := RX10) (T := TX10) (N := 52) hx hb hts inlX10 hown hK hPD.1 0 rfl rfl 35 (by decide) (hts _ gw_680) (fun _ h9 => h9) rfl dX10_repeats_1 ?_
  refine lv_iload_n hx hb dX10_repeats_4 rfl (lv_at hl 1 rfl) ?_
  refine lv_isub hx hb dX10_repeats_5 ?_
  refine lv_istore (lv' := [(4, .int ((f0 35) - p1)), (0, .ref h0), (1, .int p1), (2, .int p2), (3, .int p3)]) hx hb dX10_repeats_6 hl (by decide) rfl (fun ls hl => ?_)
  refine lv_iload_n hx hb dX10_repeats_8 rfl (lv_at hl 2 rfl) ?_
  refine lv_iload hx hb dX10_repeats_9 (lv_at hl 0 rfl) ?_
  refine lv_iload_n hx hb dX10_repeats_11 rfl (lv_at hl 3 rfl) ?_
  refine lv_imul hx hb dX10_repeats_12 ?_
  refine lv_iadd hx hb dX10_repeats_13 ?_
  refine lv_bipush (v := 48) hx hb dX10_repeats_14 (by decide) ?_
  refine lv_icmp_le (tgt := 27) hx hb dX10_repeats_16 (by decide) (fun cc1 => ?_) (fun cc1 => ?_)
  · have h := (if_pos cc1).symm.trans h
    refine lv_iload hx hb dX10_repeats_27 (lv_at hl 0 rfl) ?_
    refine lv_istore (lv' := [(5, .int ((f0 35) - p1)), (4, .int ((f0 35) - p1)), (0, .ref h0), (1, .int p1), (2, .int p2), (3, .int p3)]) hx hb dX10_repeats_29 hl (by decide) rfl (fun ls hl => ?_)
    exact ww_f10_repeats_l31 C0 NF A0 f0 ((f0 35) - p1) ((f0 35) - p1) h _ _ _ hPD hS (lv_sub hl [2, 3, 4, 5, 1, 0] rfl)
  · have h := (if_neg cc1).symm.trans h
    refine lv_aload_n hx hb dX10_repeats_19 rfl (lv_at hl 1 rfl) ?_
    refine lv_bipush (v := 6) hx hb dX10_repeats_20 (by decide) ?_
    refine lv_iload_n hx hb dX10_repeats_22 rfl (lv_at hl 4 rfl) ?_
    obtain ⟨q_5, hq_5, h⟩ := ob2 h
    refine kVI (As := [.int 6, .int p3]) (rest := []) C0 (kt_X10_wrongAt l G h0 a0 f0 A0 6 p3 hq_5) gi_V_X10_151_X10_wrongAt (n := 2) rfl (by decide +kernel) rfl ⟨rfl, rfl, Nat.le_of_ble_eq_true rfl, Nat.le_of_ble_eq_true rfl⟩ hPD hS 0 10 rfl rfl rfl [0, 1, 2, 3, 4, 5, 6, 7, 8, 9, 10, 11, 12, 13, 14, 15, 16, 17, 18, 19, 20, 21, 22, 23, 24, 25, 26, 27, 28, 29, 30, 31, 32, 33] [] [0, 1, 2, 3, 4, 5, 6, 7, 8, 9, 10, 11, 12, 13, 14, 15, 16, 17, 18, 19, 20, 21, 22, 23, 24, 25, 26, 27, 28, 29, 30, 31, 32, 33] (wN := (wX10 G h0 a0 q_5.2 A0)) rfl rfl rfl rfl rfl hl.1 (Nat.le_of_ble_eq_true rfl) dX10_repeats_23 (fun H locs hPD hS => ?_)
    obtain ⟨hz, h⟩ := ob h
    obtain rfl := Option.some.inj h
    exact eZ C0 hPD.1 hPD.2 hS rfl (nbool (Classical.not_not.mp hz)) dX10_repeats_26
abbrev rmX10_readsStep : Room := { frames := 2, cells := 0, slots := 0, locals := 47 }
set_option maxRecDepth 100000 in
set_option maxHeartbeats 4000000 in
theorem ww_f10_readsStep_b218  (C0 : Cx cX10_readsStep 4 (some .boolean) RX10 p s m args meth c G DA) {h0 : Nat} {a0 : Nat → Nat}  {k218 : (Nat → Nat → Int32) → (Nat → Int32) → Option (Int32 × (Nat → Nat → Int32) × (Nat → Int32))} {res : Int32 × (Nat → Nat → Int32) × (Nat → Int32)}  (hk218 : ∀ (A0 : Nat → Nat → Int32) (f0 : Nat → Int32), k218 A0 f0 = some res → ∀ (H : Heap) (locs : List Loc) (ls : Array Slot), WD G DA (wX10 G h0 a0 f0 A0) H → va_S DA s.heap H locs → lv_has ls 4 [(0, .ref h0)] → W p l e rmX10_readsStep s m args below meth c H locs 0 0 (MQ below (QI G DA res.1 (wX10 G h0 a0 res.2.2 res.2.1)) args s 0 0 DA) (F0 m 218 ls [])) : ∀ (A0 : Nat → Nat → Int32) (f0 : Nat → Int32), f10_readsStep_b218   k218 A0 f0 = some res → ∀ (H : Heap) (locs : List Loc) (ls : Array Slot), WD G DA (wX10 G h0 a0 f0 A0) H → va_S DA s.heap H locs → lv_has ls 4 [(0, .ref h0)] → W p l e rmX10_readsStep s m args below meth c H locs 0 0 (MQ below (QI G DA res.1 (wX10 G h0 a0 res.2.2 res.2.1)) args s 0 0 DA) (F0 m 218 ls []) := by
  obtain ⟨hx, hb, hml, hown, hts⟩ := C0.1
  have hK := C0.2.2.2.1
  intro A0 f0 h _ _ _ hPD hS hl
  unfold f10_readsStep_b218 at h
  refine lv_aload_n hx hb dX10_readsStep_218 rfl (lv_at hl 0 rfl) ?_
  obtain ⟨q_9, hq_9, h⟩ := ob2 h
  refine kVI (As := []) (rest := []) C0 (kt_X10_here l G h0 a0 f0 A0 hq_9) gi_V_X10_144_X10_here (n := 0) rfl (by decide +kernel) rfl ⟨rfl, rfl, Nat.le_of_ble_eq_true rfl, Nat.le_of_ble_eq_true rfl⟩ hPD hS 0 10 rfl rfl rfl [0, 1, 2, 3, 4, 5, 6, 7, 8, 9, 10, 11, 12, 13, 14, 15, 16, 17, 18, 19, 20, 21, 22, 23, 24, 25, 26, 27, 28, 29, 30, 31, 32, 33] [] [0, 1, 2, 3, 4, 5, 6, 7, 8, 9, 10, 11, 12, 13, 14, 15, 16, 17, 18, 19, 20, 21, 22, 23, 24, 25, 26, 27, 28, 29, 30, 31, 32, 33] (wN := (wX10 G h0 a0 f0 A0)) rfl rfl rfl rfl rfl hl.1 (Nat.le_of_ble_eq_true rfl) dX10_readsStep_219 (fun H locs hPD hS => ?_)
  refine lv_bipush (v := 41) hx hb dX10_readsStep_222 (by decide) ?_
  refine lv_icmp_ne (tgt := 290) hx hb dX10_readsStep_224 (by decide) (fun cc1 => ?_) (fun cc1 => ?_)
  · have h := (if_neg cc1).symm.trans h
    refine lv_iconst (v := 1) hx hb dX10_readsStep_290 (by decide) ?_
    obtain rfl := Option.some.inj h
    exact eZ C0 hPD.1 hPD.2 hS rfl rfl dX10_readsStep_291
  · have h := (if_pos cc1).symm.trans h
    refine lv_aload_n hx hb dX10_readsStep_227 rfl (lv_at hl 0 rfl) ?_
    refine va_get (D := G.1) (ci := 10) (v := .int (f0 36)) (C := RX10) (T := TX10) (N := 52) hx hb hts inlX10 hown hK hPD.1 0 rfl rfl 36 (by decide) (hts _ gw_690) (fun _ h9 => h9) rfl dX10_readsStep_228 ?_
    refine lv_if_le (tgt := 290) hx hb dX10_readsStep_231 (by decide) (fun cc1 => ?_) (fun cc1 => ?_)
    · have h := (if_pos cc1).symm.trans h
      refine lv_iconst (v := 1) hx hb dX10_readsStep_290 (by decide) ?_
      obtain rfl := Option.some.inj h
      exact eZ C0 hPD.1 hPD.2 hS rfl rfl dX10_readsStep_291
    · have h := (if_neg cc1).symm.trans h
      refine lv_aload_n hx hb dX10_readsStep_234 rfl (lv_at hl 0 rfl) ?_
      refine lv_aload_n hx hb dX10_readsStep_235 rfl (lv_at hl 0 rfl) ?_
      refine va_get (D := G.1) (ci := 10) (v := .int (f0 9)) (C := RX10) (T := TX10) (N := 52) hx hb hts inlX10 hown hK hPD.1 0 rfl rfl 9 (by decide) (hts _ gw_554) (fun _ h9 => h9) rfl dX10_readsStep_236 ?_
      refine lv_iconst (v := 1) hx hb dX10_readsStep_239 (by decide) ?_
      refine lv_iadd hx hb dX10_readsStep_240 ?_
      refine va_put (D := G.1) (ci := 10) (v := .int ((f0 9) + 1)) (ty := .int) (C := RX10) (T := TX10) (N := 52) hx hb hts inlX10 tyX10 tyX10_ok nmX10 hown hK hPD.1 hPD.2 hS 0 rfl rfl 9 (by decide) (hts _ gw_554) (fun _ h9 => h9) rfl (by decide +kernel) rfl rfl (Nat.le_of_ble_eq_true rfl) dX10_readsStep_241 (fun H locs hP hD hS => ?_)
      obtain ⟨f0_10, ef0_10, h⟩ := lvl h
      have hPD : WD G DA (wX10 G h0 a0 f0_10 A0) H := by rw [ef0_10]; exact ⟨hP, hD⟩
      clear ef0_10 hP hD
      refine lv_aload_n hx hb dX10_readsStep_244 rfl (lv_at hl 0 rfl) ?_
      refine lv_aload_n hx hb dX10_readsStep_245 rfl (lv_at hl 0 rfl) ?_
      refine va_get (D := G.1) (ci := 10) (v := .int (f0_10 36)) (C := RX10) (T := TX10) (N := 52) hx hb hts inlX10 hown hK hPD.1 0 rfl rfl 36 (by decide) (hts _ gw_690) (fun _ h9 => h9) rfl dX10_readsStep_246 ?_
      refine lv_iconst (v := 1) hx hb dX10_readsStep_249 (by decide) ?_
      refine lv_isub hx hb dX10_readsStep_250 ?_
      refine va_put (D := G.1) (ci := 10) (v := .int ((f0_10 36) - 1)) (ty := .int) (C := RX10) (T := TX10) (N := 52) hx hb hts inlX10 tyX10 tyX10_ok nmX10 hown hK hPD.1 hPD.2 hS 0 rfl rfl 36 (by decide) (hts _ gw_690) (fun _ h9 => h9) rfl (by decide +kernel) rfl rfl (Nat.le_of_ble_eq_true rfl) dX10_readsStep_251 (fun H locs hP hD hS => ?_)
      obtain ⟨f0_11, ef0_11, h⟩ := lvl h
      have hPD : WD G DA (wX10 G h0 a0 f0_11 A0) H := by rw [ef0_11]; exact ⟨hP, hD⟩
      clear ef0_11 hP hD
      refine lv_aload_n hx hb dX10_readsStep_254 rfl (lv_at hl 0 rfl) ?_
      refine lv_aload_n hx hb dX10_readsStep_255 rfl (lv_at hl 0 rfl) ?_
      refine va_get (D := G.1) (ci := 10) (v := .ref (a0 33)) (C := RX10) (T := TX10) (N := 52) hx hb hts inlX10 hown hK hPD.1 0 rfl rfl 33 (by decide) (hts _ gw_691) (fun _ h9 => h9) rfl dX10_readsStep_256 ?_
      refine lv_aload_n hx hb dX10_readsStep_259 rfl (lv_at hl 0 rfl) ?_
      refine va_get (D := G.1) (ci := 10) (v := .int (f0_11 36)) (C := RX10) (T := TX10) (N := 52) hx hb hts inlX10 hown hK hPD.1 0 rfl rfl 36 (by decide) (hts _ gw_690) (fun _ h9 => h9) rfl dX10_readsStep_260 ?_
      obtain ⟨hi_12, h⟩ := ob h
      refine va_iald hx hb hK hPD.1 23 1 rfl rfl hi_12 dX10_readsStep_263 ?_
      refine lv_aload_n hx hb dX10_readsStep_264 rfl (lv_at hl 0 rfl) ?_
      refine va_get (D := G.1) (ci := 10) (v := .ref (a0 34)) (C := RX10) (T := TX10) (N := 52) hx hb hts inlX10 hown hK hPD.1 0 rfl rfl 34 (by decide) (hts _ gw_692) (fun _ h9 => h9) rfl dX10_readsStep_265 ?_
      refine lv_aload_n hx hb dX10_readsStep_268 rfl (lv_at hl 0 rfl) ?_
      refine va_get (D := G.1) (ci := 10) (v := .int (f0_11 36)) (C := RX10) (T := TX10) (N := 52) hx hb hts inlX10 hown hK hPD.1 0 rfl rfl 36 (by decide) (hts _ gw_690) (fun _ h9 => h9) rfl dX10_readsStep_269 ?_
      obtain ⟨hi_13, h⟩ := ob h
      refine va_iald hx hb hK hPD.1 24 1 rfl rfl hi_13 dX10_readsStep_272 ?_
      refine lv_aload_n hx hb dX10_readsStep_273 rfl (lv_at hl 0 rfl) ?_
      refine va_get (D := G.1) (ci := 10) (v := .ref (a0 32)) (C := RX10) (T := TX10) (N := 52) hx hb hts inlX10 hown hK hPD.1 0 rfl rfl 32 (by decide) (hts _ gw_693) (fun _ h9 => h9) rfl dX10_readsStep_274 ?_
      refine lv_aload_n hx hb dX10_readsStep_277 rfl (lv_at hl 0 rfl) ?_
      refine va_get (D := G.1) (ci := 10) (v := .int (f0_11 36)) (C := RX10) (T := TX10) (N := 52) hx hb hts inlX10 hown hK hPD.1 0 rfl rfl 36 (by decide) (hts _ gw_690) (fun _ h9 => h9) rfl dX10_readsStep_278 ?_
      obtain ⟨hi_14, h⟩ := ob h
      refine va_iald hx hb hK hPD.1 22 1 rfl rfl hi_14 dX10_readsStep_281 ?_
      obtain ⟨q_15, hq_15, h⟩ := ob2 h
      refine kVI (As := [.int (gx (A0 33) (f0_11 36)), .int (gx (A0 34) (f0_11 36)), .int (gx (A0 32) (f0_11 36))]) (rest := []) C0 (kt_X10_repeats l G h0 a0 f0_11 A0 (gx (A0 33) (f0_11 36)) (gx (A0 34) (f0_11 36)) (gx (A0 32) (f0_11 36)) hq_15) gi_V_X10_265_X10_repeats (n := 3) rfl (by decide +kernel) rfl ⟨rfl, rfl, Nat.le_of_ble_eq_true rfl, Nat.le_of_ble_eq_true rfl⟩ hPD hS 0 10 rfl rfl rfl [0, 1, 2, 3, 4, 5, 6, 7, 8, 9, 10, 11, 12, 13, 14, 15, 16, 17, 18, 19, 20, 21, 22, 23, 24, 25, 26, 27, 28, 29, 30, 31, 32, 33] [] [0, 1, 2, 3, 4, 5, 6, 7, 8, 9, 10, 11, 12, 13, 14, 15, 16, 17, 18, 19, 20, 21, 22, 23, 24, 25, 26, 27, 28, 29, 30, 31, 32, 33] (wN := (wX10 G h0 a0 q_15.2.2 q_15.2.1)) rfl rfl rfl rfl rfl hl.1 (Nat.le_of_ble_eq_true rfl) dX10_readsStep_282 (fun H locs hPD hS => ?_)
      refine lv_if_ne (tgt := 218) hx hb dX10_readsStep_285 (by decide) (fun cc1 => ?_) (fun cc1 => ?_)
      · have h := (if_neg cc1).symm.trans h
        exact hk218 q_15.2.1 q_15.2.2 h _ _ _ hPD hS (lv_sub hl [0] rfl)
      · have h := (if_pos cc1).symm.trans h
        refine lv_iconst (v := 0) hx hb dX10_readsStep_288 (by decide) ?_
        obtain rfl := Option.some.inj h
        exact eZ C0 hPD.1 hPD.2 hS rfl rfl dX10_readsStep_289
set_option maxRecDepth 100000 in
set_option maxHeartbeats 4000000 in
theorem ww_f10_readsStep_l218  (C0 : Cx cX10_readsStep 4 (some .boolean) RX10 p s m args meth c G DA) {h0 : Nat} {a0 : Nat → Nat}   {res : Int32 × (Nat → Nat → Int32) × (Nat → Int32)}  : ∀ (n : Nat) (A0 : Nat → Nat → Int32) (f0 : Nat → Int32), f10_readsStep_l218   n A0 f0 = some res → ∀ (H : Heap) (locs : List Loc) (ls : Array Slot), WD G DA (wX10 G h0 a0 f0 A0) H → va_S DA s.heap H locs → lv_has ls 4 [(0, .ref h0)] → W p l e rmX10_readsStep s m args below meth c H locs 0 0 (MQ below (QI G DA res.1 (wX10 G h0 a0 res.2.2 res.2.1)) args s 0 0 DA) (F0 m 218 ls []) := by
  intro n
  induction n with
  | zero => intro A0 f0 h; cases h
  | succ n ih => intro A0 f0 h; exact ww_f10_readsStep_b218 C0  ih A0 f0 h
set_option maxRecDepth 100000 in
set_option maxHeartbeats 4000000 in
theorem ww_f10_readsStep_b190  (C0 : Cx cX10_readsStep 4 (some .boolean) RX10 p s m args meth c G DA) {h0 : Nat} {a0 : Nat → Nat}   {res : Int32 × (Nat → Nat → Int32) × (Nat → Int32)}  : ∀ (A0 : Nat → Nat → Int32) (f0 : Nat → Int32) (l1 : Int32) (l2 : Int32) (s0 : Int32) (s1 : Int32), f10_readsStep_b190   A0 f0 l1 l2 s0 s1 = some res → ∀ (H : Heap) (locs : List Loc) (ls : Array Slot), WD G DA (wX10 G h0 a0 f0 A0) H → va_S DA s.heap H locs → lv_has ls 4 [(0, .ref h0), (1, .int l1), (2, .int l2)] → W p l e rmX10_readsStep s m args below meth c H locs 0 0 (MQ below (QI G DA res.1 (wX10 G h0 a0 res.2.2 res.2.1)) args s 0 0 DA) (F0 m 190 ls [.int s0, .int s1, .ref (a0 31)]) := by
  obtain ⟨hx, hb, hml, hown, hts⟩ := C0.1
  have hK := C0.2.2.2.1
  intro A0 f0 l1 l2 s0 s1 h _ _ _ hPD hS hl
  unfold f10_readsStep_b190 at h
  obtain ⟨hi_5, h⟩ := ob h
  refine va_iast hx hb hK hPD.1 hPD.2 hS 21 1 rfl rfl hi_5 dX10_readsStep_190 (fun H locs hP hD hS => ?_)
  obtain ⟨A0_6, eA0_6, h⟩ := lvl h
  have hPD : WD G DA (wX10 G h0 a0 f0 A0_6) H := by rw [eA0_6]; exact ⟨hP, hD⟩
  clear eA0_6 hP hD
  refine lv_aload_n hx hb dX10_readsStep_191 rfl (lv_at hl 0 rfl) ?_
  refine lv_aload_n hx hb dX10_readsStep_192 rfl (lv_at hl 0 rfl) ?_
  refine va_get (D := G.1) (ci := 10) (v := .int (f0 35)) (C := RX10) (T := TX10) (N := 52) hx hb hts inlX10 hown hK hPD.1 0 rfl rfl 35 (by decide) (hts _ gw_680) (fun _ h9 => h9) rfl dX10_readsStep_193 ?_
  refine lv_iconst (v := 1) hx hb dX10_readsStep_196 (by decide) ?_
  refine lv_iadd hx hb dX10_readsStep_197 ?_
  refine va_put (D := G.1) (ci := 10) (v := .int ((f0 35) + 1)) (ty := .int) (C := RX10) (T := TX10) (N := 52) hx hb hts inlX10 tyX10 tyX10_ok nmX10 hown hK hPD.1 hPD.2 hS 0 rfl rfl 35 (by decide) (hts _ gw_680) (fun _ h9 => h9) rfl (by decide +kernel) rfl rfl (Nat.le_of_ble_eq_true rfl) dX10_readsStep_198 (fun H locs hP hD hS => ?_)
  obtain ⟨f0_7, ef0_7, h⟩ := lvl h
  have hPD : WD G DA (wX10 G h0 a0 f0_7 A0_6) H := by rw [ef0_7]; exact ⟨hP, hD⟩
  clear ef0_7 hP hD
  refine lv_aload_n hx hb dX10_readsStep_201 rfl (lv_at hl 0 rfl) ?_
  refine lv_aload_n hx hb dX10_readsStep_202 rfl (lv_at hl 0 rfl) ?_
  refine va_get (D := G.1) (ci := 10) (v := .int (f0_7 35)) (C := RX10) (T := TX10) (N := 52) hx hb hts inlX10 hown hK hPD.1 0 rfl rfl 35 (by decide) (hts _ gw_680) (fun _ h9 => h9) rfl dX10_readsStep_203 ?_
  refine lv_iconst (v := 1) hx hb dX10_readsStep_206 (by decide) ?_
  refine lv_isub hx hb dX10_readsStep_207 ?_
  refine lv_iload_n hx hb dX10_readsStep_208 rfl (lv_at hl 2 rfl) ?_
  refine lv_iload_n hx hb dX10_readsStep_209 rfl (lv_at hl 1 rfl) ?_
  obtain ⟨q_8, hq_8, h⟩ := ob2 h
  refine kVI (As := [.int ((f0_7 35) - 1), .int l2, .int l1]) (rest := []) C0 (kt_X10_repeats l G h0 a0 f0_7 A0_6 ((f0_7 35) - 1) l2 l1 hq_8) gi_V_X10_265_X10_repeats (n := 3) rfl (by decide +kernel) rfl ⟨rfl, rfl, Nat.le_of_ble_eq_true rfl, Nat.le_of_ble_eq_true rfl⟩ hPD hS 0 10 rfl rfl rfl [0, 1, 2, 3, 4, 5, 6, 7, 8, 9, 10, 11, 12, 13, 14, 15, 16, 17, 18, 19, 20, 21, 22, 23, 24, 25, 26, 27, 28, 29, 30, 31, 32, 33] [] [0, 1, 2, 3, 4, 5, 6, 7, 8, 9, 10, 11, 12, 13, 14, 15, 16, 17, 18, 19, 20, 21, 22, 23, 24, 25, 26, 27, 28, 29, 30, 31, 32, 33] (wN := (wX10 G h0 a0 q_8.2.2 q_8.2.1)) rfl rfl rfl rfl rfl hl.1 (Nat.le_of_ble_eq_true rfl) dX10_readsStep_210 (fun H locs hPD hS => ?_)
  refine lv_if_ne (tgt := 218) hx hb dX10_readsStep_213 (by decide) (fun cc1 => ?_) (fun cc1 => ?_)
  · have h := (if_neg cc1).symm.trans h
    exact ww_f10_readsStep_l218 C0 NF q_8.2.1 q_8.2.2 h _ _ _ hPD hS (lv_sub hl [0] rfl)
  · have h := (if_pos cc1).symm.trans h
    refine lv_iconst (v := 0) hx hb dX10_readsStep_216 (by decide) ?_
    obtain rfl := Option.some.inj h
    exact eZ C0 hPD.1 hPD.2 hS rfl rfl dX10_readsStep_217
set_option maxRecDepth 100000 in
set_option maxHeartbeats 4000000 in
theorem ww_f10_readsStep_b139  (C0 : Cx cX10_readsStep 4 (some .boolean) RX10 p s m args meth c G DA) {h0 : Nat} {a0 : Nat → Nat}   {res : Int32 × (Nat → Nat → Int32) × (Nat → Int32)}  : ∀ (A0 : Nat → Nat → Int32) (f0 : Nat → Int32) (l1 : Int32) (l2 : Int32) (l3 : Int32), f10_readsStep_b139   A0 f0 l1 l2 l3 = some res → ∀ (H : Heap) (locs : List Loc) (ls : Array Slot), WD G DA (wX10 G h0 a0 f0 A0) H → va_S DA s.heap H locs → lv_has ls 4 [(0, .ref h0), (1, .int l1), (2, .int l2), (3, .int l3)] → W p l e rmX10_readsStep s m args below meth c H locs 0 0 (MQ below (QI G DA res.1 (wX10 G h0 a0 res.2.2 res.2.1)) args s 0 0 DA) (F0 m 139 ls []) := by
  obtain ⟨hx, hb, hml, hown, hts⟩ := C0.1
  have hK := C0.2.2.2.1
  intro A0 f0 l1 l2 l3 h _ _ _ hPD hS hl
  unfold f10_readsStep_b139 at h
  refine lv_aload_n hx hb dX10_readsStep_139 rfl (lv_at hl 0 rfl) ?_
  refine va_get (D := G.1) (ci := 10) (v := .int (f0 35)) (C := RX10) (T := TX10) (N := 52) hx hb hts inlX10 hown hK hPD.1 0 rfl rfl 35 (by decide) (hts _ gw_680) (fun _ h9 => h9) rfl dX10_readsStep_140 ?_
  refine lv_iload_n hx hb dX10_readsStep_143 rfl (lv_at hl 2 rfl) ?_
  refine lv_iadd hx hb dX10_readsStep_144 ?_
  refine lv_bipush (v := 48) hx hb dX10_readsStep_145 (by decide) ?_
  refine lv_icmp_le (tgt := 158) hx hb dX10_readsStep_147 (by decide) (fun cc1 => ?_) (fun cc1 => ?_)
  · have h := (if_pos cc1).symm.trans h
    refine lv_aload_n hx hb dX10_readsStep_158 rfl (lv_at hl 0 rfl) ?_
    refine lv_aload_n hx hb dX10_readsStep_159 rfl (lv_at hl 0 rfl) ?_
    refine va_get (D := G.1) (ci := 10) (v := .int (f0 9)) (C := RX10) (T := TX10) (N := 52) hx hb hts inlX10 hown hK hPD.1 0 rfl rfl 9 (by decide) (hts _ gw_554) (fun _ h9 => h9) rfl dX10_readsStep_160 ?_
    refine lv_iconst (v := 1) hx hb dX10_readsStep_163 (by decide) ?_
    refine lv_iadd hx hb dX10_readsStep_164 ?_
    refine va_put (D := G.1) (ci := 10) (v := .int ((f0 9) + 1)) (ty := .int) (C := RX10) (T := TX10) (N := 52) hx hb hts inlX10 tyX10 tyX10_ok nmX10 hown hK hPD.1 hPD.2 hS 0 rfl rfl 9 (by decide) (hts _ gw_554) (fun _ h9 => h9) rfl (by decide +kernel) rfl rfl (Nat.le_of_ble_eq_true rfl) dX10_readsStep_165 (fun H locs hP hD hS => ?_)
    obtain ⟨f0_4, ef0_4, h⟩ := lvl h
    have hPD : WD G DA (wX10 G h0 a0 f0_4 A0) H := by rw [ef0_4]; exact ⟨hP, hD⟩
    clear ef0_4 hP hD
    refine lv_aload_n hx hb dX10_readsStep_168 rfl (lv_at hl 0 rfl) ?_
    refine va_get (D := G.1) (ci := 10) (v := .ref (a0 31)) (C := RX10) (T := TX10) (N := 52) hx hb hts inlX10 hown hK hPD.1 0 rfl rfl 31 (by decide) (hts _ gw_681) (fun _ h9 => h9) rfl dX10_readsStep_169 ?_
    refine lv_aload_n hx hb dX10_readsStep_172 rfl (lv_at hl 0 rfl) ?_
    refine va_get (D := G.1) (ci := 10) (v := .int (f0_4 35)) (C := RX10) (T := TX10) (N := 52) hx hb hts inlX10 hown hK hPD.1 0 rfl rfl 35 (by decide) (hts _ gw_680) (fun _ h9 => h9) rfl dX10_readsStep_173 ?_
    refine lv_iload_n hx hb dX10_readsStep_176 rfl (lv_at hl 3 rfl) ?_
    refine lv_bipush (v := 46) hx hb dX10_readsStep_177 (by decide) ?_
    refine lv_icmp_ne (tgt := 186) hx hb dX10_readsStep_179 (by decide) (fun cc1 => ?_) (fun cc1 => ?_)
    · have h := (if_neg cc1).symm.trans h
      refine lv_iload_n hx hb dX10_readsStep_186 rfl (lv_at hl 3 rfl) ?_
      refine lv_bipush (v := 97) hx hb dX10_readsStep_187 (by decide) ?_
      refine lv_isub hx hb dX10_readsStep_189 ?_
      exact ww_f10_readsStep_b190 C0 A0 f0_4 l1 l2 (l3 - 97) (f0_4 35) h _ _ _ hPD hS (lv_sub hl [0, 1, 2] rfl)
    · have h := (if_pos cc1).symm.trans h
      refine lv_iconst (v := (-1)) hx hb dX10_readsStep_182 (by decide) ?_
      refine lv_goto (tgt := 190) hx hb dX10_readsStep_183 (by decide) ?_
      exact ww_f10_readsStep_b190 C0 A0 f0_4 l1 l2 (-1) (f0_4 35) h _ _ _ hPD hS (lv_sub hl [0, 1, 2] rfl)
  · have h := (if_neg cc1).symm.trans h
    refine lv_aload_n hx hb dX10_readsStep_150 rfl (lv_at hl 0 rfl) ?_
    refine lv_bipush (v := 6) hx hb dX10_readsStep_151 (by decide) ?_
    refine lv_iload_n hx hb dX10_readsStep_153 rfl (lv_at hl 1 rfl) ?_
    obtain ⟨q_16, hq_16, h⟩ := ob2 h
    refine kVI (As := [.int 6, .int l1]) (rest := []) C0 (kt_X10_wrongAt l G h0 a0 f0 A0 6 l1 hq_16) gi_V_X10_151_X10_wrongAt (n := 2) rfl (by decide +kernel) rfl ⟨rfl, rfl, Nat.le_of_ble_eq_true rfl, Nat.le_of_ble_eq_true rfl⟩ hPD hS 0 10 rfl rfl rfl [0, 1, 2, 3, 4, 5, 6, 7, 8, 9, 10, 11, 12, 13, 14, 15, 16, 17, 18, 19, 20, 21, 22, 23, 24, 25, 26, 27, 28, 29, 30, 31, 32, 33] [] [0, 1, 2, 3, 4, 5, 6, 7, 8, 9, 10, 11, 12, 13, 14, 15, 16, 17, 18, 19, 20, 21, 22, 23, 24, 25, 26, 27, 28, 29, 30, 31, 32, 33] (wN := (wX10 G h0 a0 q_16.2 A0)) rfl rfl rfl rfl rfl hl.1 (Nat.le_of_ble_eq_true rfl) dX10_readsStep_154 (fun H locs hPD hS => ?_)
    obtain ⟨hz, h⟩ := ob h
    obtain rfl := Option.some.inj h
    exact eZ C0 hPD.1 hPD.2 hS rfl (nbool (Classical.not_not.mp hz)) dX10_readsStep_157
set_option maxRecDepth 100000 in
set_option maxHeartbeats 4000000 in
theorem ww_f10_readsStep_b4  (C0 : Cx cX10_readsStep 4 (some .boolean) RX10 p s m args meth c G DA) {h0 : Nat} {a0 : Nat → Nat}  {k4 : (Nat → Nat → Int32) → (Nat → Int32) → Option (Int32 × (Nat → Nat → Int32) × (Nat → Int32))} {res : Int32 × (Nat → Nat → Int32) × (Nat → Int32)}  (hk4 : ∀ (A0 : Nat → Nat → Int32) (f0 : Nat → Int32), k4 A0 f0 = some res → ∀ (H : Heap) (locs : List Loc) (ls : Array Slot), WD G DA (wX10 G h0 a0 f0 A0) H → va_S DA s.heap H locs → lv_has ls 4 [(0, .ref h0)] → W p l e rmX10_readsStep s m args below meth c H locs 0 0 (MQ below (QI G DA res.1 (wX10 G h0 a0 res.2.2 res.2.1)) args s 0 0 DA) (F0 m 4 ls [])) : ∀ (A0 : Nat → Nat → Int32) (f0 : Nat → Int32), f10_readsStep_b4   k4 A0 f0 = some res → ∀ (H : Heap) (locs : List Loc) (ls : Array Slot), WD G DA (wX10 G h0 a0 f0 A0) H → va_S DA s.heap H locs → lv_has ls 4 [(0, .ref h0)] → W p l e rmX10_readsStep s m args below meth c H locs 0 0 (MQ below (QI G DA res.1 (wX10 G h0 a0 res.2.2 res.2.1)) args s 0 0 DA) (F0 m 4 ls []) := by
  obtain ⟨hx, hb, hml, hown, hts⟩ := C0.1
  have hK := C0.2.2.2.1
  intro A0 f0 h _ _ _ hPD hS hl
  unfold f10_readsStep_b4 at h
  refine lv_aload_n hx hb dX10_readsStep_4 rfl (lv_at hl 0 rfl) ?_
  obtain ⟨q_2, hq_2, h⟩ := ob2 h
  refine kVI (As := []) (rest := []) C0 (kt_X10_here l G h0 a0 f0 A0 hq_2) gi_V_X10_144_X10_here (n := 0) rfl (by decide +kernel) rfl ⟨rfl, rfl, Nat.le_of_ble_eq_true rfl, Nat.le_of_ble_eq_true rfl⟩ hPD hS 0 10 rfl rfl rfl [0, 1, 2, 3, 4, 5, 6, 7, 8, 9, 10, 11, 12, 13, 14, 15, 16, 17, 18, 19, 20, 21, 22, 23, 24, 25, 26, 27, 28, 29, 30, 31, 32, 33] [] [0, 1, 2, 3, 4, 5, 6, 7, 8, 9, 10, 11, 12, 13, 14, 15, 16, 17, 18, 19, 20, 21, 22, 23, 24, 25, 26, 27, 28, 29, 30, 31, 32, 33] (wN := (wX10 G h0 a0 f0 A0)) rfl rfl rfl rfl rfl hl.1 (Nat.le_of_ble_eq_true rfl) dX10_readsStep_5 (fun H locs hPD hS => ?_)
  refine lv_bipush (v := 40) hx hb dX10_readsStep_8 (by decide) ?_
  refine lv_icmp_ne (tgt := 97) hx hb dX10_readsStep_10 (by decide) (fun cc1 => ?_) (fun cc1 => ?_)
  · have h := (if_neg cc1).symm.trans h
    refine lv_aload_n hx hb dX10_readsStep_97 rfl (lv_at hl 0 rfl) ?_
    refine va_get (D := G.1) (ci := 10) (v := .int (f0 37)) (C := RX10) (T := TX10) (N := 52) hx hb hts inlX10 hown hK hPD.1 0 rfl rfl 37 (by decide) (hts _ gw_678) (fun _ h9 => h9) rfl dX10_readsStep_98 ?_
    refine lv_istore_n (lv' := [(1, .int (f0 37)), (0, .ref h0)]) hx hb dX10_readsStep_101 rfl hl (by decide) rfl (fun ls hl => ?_)
    refine lv_aload_n hx hb dX10_readsStep_102 rfl (lv_at hl 1 rfl) ?_
    refine va_get (D := G.1) (ci := 10) (v := .int (f0 38)) (C := RX10) (T := TX10) (N := 52) hx hb hts inlX10 hown hK hPD.1 0 rfl rfl 38 (by decide) (hts _ gw_679) (fun _ h9 => h9) rfl dX10_readsStep_103 ?_
    refine lv_istore_n (lv' := [(2, .int (f0 38)), (1, .int (f0 37)), (0, .ref h0)]) hx hb dX10_readsStep_106 rfl hl (by decide) rfl (fun ls hl => ?_)
    refine lv_aload_n hx hb dX10_readsStep_107 rfl (lv_at hl 2 rfl) ?_
    obtain ⟨q_3, hq_3, h⟩ := ob2 h
    refine kVI (As := []) (rest := []) C0 (kt_X10_here l G h0 a0 f0 A0 hq_3) gi_V_X10_144_X10_here (n := 0) rfl (by decide +kernel) rfl ⟨rfl, rfl, Nat.le_of_ble_eq_true rfl, Nat.le_of_ble_eq_true rfl⟩ hPD hS 0 10 rfl rfl rfl [0, 1, 2, 3, 4, 5, 6, 7, 8, 9, 10, 11, 12, 13, 14, 15, 16, 17, 18, 19, 20, 21, 22, 23, 24, 25, 26, 27, 28, 29, 30, 31, 32, 33] [] [0, 1, 2, 3, 4, 5, 6, 7, 8, 9, 10, 11, 12, 13, 14, 15, 16, 17, 18, 19, 20, 21, 22, 23, 24, 25, 26, 27, 28, 29, 30, 31, 32, 33] (wN := (wX10 G h0 a0 f0 A0)) rfl rfl rfl rfl rfl hl.1 (Nat.le_of_ble_eq_true rfl) dX10_readsStep_108 (fun H locs hPD hS => ?_)
    refine lv_istore_n (lv' := [(3, .int q_3), (2, .int (f0 38)), (1, .int (f0 37)), (0, .ref h0)]) hx hb dX10_readsStep_111 rfl hl (by decide) rfl (fun ls hl => ?_)
    refine lv_iload_n hx hb dX10_readsStep_112 rfl (lv_at hl 0 rfl) ?_
    refine lv_bipush (v := 46) hx hb dX10_readsStep_113 (by decide) ?_
    refine lv_icmp_eq (tgt := 139) hx hb dX10_readsStep_115 (by decide) (fun cc1 => ?_) (fun cc1 => ?_)
    · have h := (if_pos cc1).symm.trans h
      exact ww_f10_readsStep_b139 C0 A0 f0 (f0 37) (f0 38) q_3 h _ _ _ hPD hS (lv_sub hl [3, 2, 1, 0] rfl)
    · have h := (if_neg cc1).symm.trans h
      refine lv_iload_n hx hb dX10_readsStep_118 rfl (lv_at hl 0 rfl) ?_
      refine lv_bipush (v := 97) hx hb dX10_readsStep_119 (by decide) ?_
      refine lv_bipush (v := 112) hx hb dX10_readsStep_121 (by decide) ?_
      refine kSI (As := [.int q_3, .int 97, .int 112]) (rest := []) C0 (kt_X10_in l G  q_3 97 112) gi_S_X10_112_X10_in (n := 3) rfl (by decide +kernel) ⟨rfl, rfl, Nat.le_of_ble_eq_true rfl, Nat.le_of_ble_eq_true rfl⟩ hPD hS [] [0, 1, 2, 3, 4, 5, 6, 7, 8, 9, 10, 11, 12, 13, 14, 15, 16, 17, 18, 19, 20, 21, 22, 23, 24, 25, 26, 27, 28, 29, 30, 31, 32, 33] [0, 1, 2, 3, 4, 5, 6, 7, 8, 9, 10, 11, 12, 13, 14, 15, 16, 17, 18, 19, 20, 21, 22, 23, 24, 25, 26, 27, 28, 29, 30, 31, 32, 33] (wN := (wX10 G h0 a0 f0 A0)) rfl rfl rfl rfl rfl hl.1 (Nat.le_of_ble_eq_true rfl) dX10_readsStep_123 (fun H locs hPD hS => ?_)
      refine lv_if_ne (tgt := 139) hx hb dX10_readsStep_126 (by decide) (fun cc1 => ?_) (fun cc1 => ?_)
      · have h := (if_neg cc1).symm.trans h
        exact ww_f10_readsStep_b139 C0 A0 f0 (f0 37) (f0 38) q_3 h _ _ _ hPD hS (lv_sub hl [3, 2, 1, 0] rfl)
      · have h := (if_pos cc1).symm.trans h
        refine lv_aload_n hx hb dX10_readsStep_129 rfl (lv_at hl 3 rfl) ?_
        refine lv_iconst (v := 1) hx hb dX10_readsStep_130 (by decide) ?_
        refine lv_aload_n hx hb dX10_readsStep_131 rfl (lv_at hl 3 rfl) ?_
        refine va_get (D := G.1) (ci := 10) (v := .int (f0 9)) (C := RX10) (T := TX10) (N := 52) hx hb hts inlX10 hown hK hPD.1 0 rfl rfl 9 (by decide) (hts _ gw_554) (fun _ h9 => h9) rfl dX10_readsStep_132 ?_
        obtain ⟨q_17, hq_17, h⟩ := ob2 h
        refine kVI (As := [.int 1, .int (f0 9)]) (rest := []) C0 (kt_X10_wrongAt l G h0 a0 f0 A0 1 (f0 9) hq_17) gi_V_X10_151_X10_wrongAt (n := 2) rfl (by decide +kernel) rfl ⟨rfl, rfl, Nat.le_of_ble_eq_true rfl, Nat.le_of_ble_eq_true rfl⟩ hPD hS 0 10 rfl rfl rfl [0, 1, 2, 3, 4, 5, 6, 7, 8, 9, 10, 11, 12, 13, 14, 15, 16, 17, 18, 19, 20, 21, 22, 23, 24, 25, 26, 27, 28, 29, 30, 31, 32, 33] [] [0, 1, 2, 3, 4, 5, 6, 7, 8, 9, 10, 11, 12, 13, 14, 15, 16, 17, 18, 19, 20, 21, 22, 23, 24, 25, 26, 27, 28, 29, 30, 31, 32, 33] (wN := (wX10 G h0 a0 q_17.2 A0)) rfl rfl rfl rfl rfl hl.1 (Nat.le_of_ble_eq_true rfl) dX10_readsStep_135 (fun H locs hPD hS => ?_)
        obtain ⟨hz, h⟩ := ob h
        obtain rfl := Option.some.inj h
        exact eZ C0 hPD.1 hPD.2 hS rfl (nbool (Classical.not_not.mp hz)) dX10_readsStep_138
  · have h := (if_pos cc1).symm.trans h
    refine lv_aload_n hx hb dX10_readsStep_13 rfl (lv_at hl 0 rfl) ?_
    refine va_get (D := G.1) (ci := 10) (v := .int (f0 36)) (C := RX10) (T := TX10) (N := 52) hx hb hts inlX10 hown hK hPD.1 0 rfl rfl 36 (by decide) (hts _ gw_690) (fun _ h9 => h9) rfl dX10_readsStep_14 ?_
    refine lv_iconst (v := 2) hx hb dX10_readsStep_17 (by decide) ?_
    refine lv_icmp_ne (tgt := 31) hx hb dX10_readsStep_18 (by decide) (fun cc1 => ?_) (fun cc1 => ?_)
    · have h := (if_neg cc1).symm.trans h
      refine lv_aload_n hx hb dX10_readsStep_31 rfl (lv_at hl 0 rfl) ?_
      refine va_get (D := G.1) (ci := 10) (v := .ref (a0 32)) (C := RX10) (T := TX10) (N := 52) hx hb hts inlX10 hown hK hPD.1 0 rfl rfl 32 (by decide) (hts _ gw_693) (fun _ h9 => h9) rfl dX10_readsStep_32 ?_
      refine lv_aload_n hx hb dX10_readsStep_35 rfl (lv_at hl 0 rfl) ?_
      refine va_get (D := G.1) (ci := 10) (v := .int (f0 36)) (C := RX10) (T := TX10) (N := 52) hx hb hts inlX10 hown hK hPD.1 0 rfl rfl 36 (by decide) (hts _ gw_690) (fun _ h9 => h9) rfl dX10_readsStep_36 ?_
      refine lv_aload_n hx hb dX10_readsStep_39 rfl (lv_at hl 0 rfl) ?_
      refine va_get (D := G.1) (ci := 10) (v := .int (f0 37)) (C := RX10) (T := TX10) (N := 52) hx hb hts inlX10 hown hK hPD.1 0 rfl rfl 37 (by decide) (hts _ gw_678) (fun _ h9 => h9) rfl dX10_readsStep_40 ?_
      obtain ⟨hi_18, h⟩ := ob h
      refine va_iast hx hb hK hPD.1 hPD.2 hS 22 1 rfl rfl hi_18 dX10_readsStep_43 (fun H locs hP hD hS => ?_)
      obtain ⟨A0_19, eA0_19, h⟩ := lvl h
      have hPD : WD G DA (wX10 G h0 a0 f0 A0_19) H := by rw [eA0_19]; exact ⟨hP, hD⟩
      clear eA0_19 hP hD
      refine lv_aload_n hx hb dX10_readsStep_44 rfl (lv_at hl 0 rfl) ?_
      refine va_get (D := G.1) (ci := 10) (v := .ref (a0 33)) (C := RX10) (T := TX10) (N := 52) hx hb hts inlX10 hown hK hPD.1 0 rfl rfl 33 (by decide) (hts _ gw_691) (fun _ h9 => h9) rfl dX10_readsStep_45 ?_
      refine lv_aload_n hx hb dX10_readsStep_48 rfl (lv_at hl 0 rfl) ?_
      refine va_get (D := G.1) (ci := 10) (v := .int (f0 36)) (C := RX10) (T := TX10) (N := 52) hx hb hts inlX10 hown hK hPD.1 0 rfl rfl 36 (by decide) (hts _ gw_690) (fun _ h9 => h9) rfl dX10_readsStep_49 ?_
      refine lv_aload_n hx hb dX10_readsStep_52 rfl (lv_at hl 0 rfl) ?_
      refine va_get (D := G.1) (ci := 10) (v := .int (f0 35)) (C := RX10) (T := TX10) (N := 52) hx hb hts inlX10 hown hK hPD.1 0 rfl rfl 35 (by decide) (hts _ gw_680) (fun _ h9 => h9) rfl dX10_readsStep_53 ?_
      obtain ⟨hi_20, h⟩ := ob h
      refine va_iast hx hb hK hPD.1 hPD.2 hS 23 1 rfl rfl hi_20 dX10_readsStep_56 (fun H locs hP hD hS => ?_)
      obtain ⟨A0_21, eA0_21, h⟩ := lvl h
      have hPD : WD G DA (wX10 G h0 a0 f0 A0_21) H := by rw [eA0_21]; exact ⟨hP, hD⟩
      clear eA0_21 hP hD
      refine lv_aload_n hx hb dX10_readsStep_57 rfl (lv_at hl 0 rfl) ?_
      refine va_get (D := G.1) (ci := 10) (v := .ref (a0 34)) (C := RX10) (T := TX10) (N := 52) hx hb hts inlX10 hown hK hPD.1 0 rfl rfl 34 (by decide) (hts _ gw_692) (fun _ h9 => h9) rfl dX10_readsStep_58 ?_
      refine lv_aload_n hx hb dX10_readsStep_61 rfl (lv_at hl 0 rfl) ?_
      refine va_get (D := G.1) (ci := 10) (v := .int (f0 36)) (C := RX10) (T := TX10) (N := 52) hx hb hts inlX10 hown hK hPD.1 0 rfl rfl 36 (by decide) (hts _ gw_690) (fun _ h9 => h9) rfl dX10_readsStep_62 ?_
      refine lv_aload_n hx hb dX10_readsStep_65 rfl (lv_at hl 0 rfl) ?_
      refine va_get (D := G.1) (ci := 10) (v := .int (f0 38)) (C := RX10) (T := TX10) (N := 52) hx hb hts inlX10 hown hK hPD.1 0 rfl rfl 38 (by decide) (hts _ gw_679) (fun _ h9 => h9) rfl dX10_readsStep_66 ?_
      obtain ⟨hi_22, h⟩ := ob h
      refine va_iast hx hb hK hPD.1 hPD.2 hS 24 1 rfl rfl hi_22 dX10_readsStep_69 (fun H locs hP hD hS => ?_)
      obtain ⟨A0_23, eA0_23, h⟩ := lvl h
      have hPD : WD G DA (wX10 G h0 a0 f0 A0_23) H := by rw [eA0_23]; exact ⟨hP, hD⟩
      clear eA0_23 hP hD
      refine lv_aload_n hx hb dX10_readsStep_70 rfl (lv_at hl 0 rfl) ?_
      refine lv_aload_n hx hb dX10_readsStep_71 rfl (lv_at hl 0 rfl) ?_
      refine va_get (D := G.1) (ci := 10) (v := .int (f0 36)) (C := RX10) (T := TX10) (N := 52) hx hb hts inlX10 hown hK hPD.1 0 rfl rfl 36 (by decide) (hts _ gw_690) (fun _ h9 => h9) rfl dX10_readsStep_72 ?_
      refine lv_iconst (v := 1) hx hb dX10_readsStep_75 (by decide) ?_
      refine lv_iadd hx hb dX10_readsStep_76 ?_
      refine va_put (D := G.1) (ci := 10) (v := .int ((f0 36) + 1)) (ty := .int) (C := RX10) (T := TX10) (N := 52) hx hb hts inlX10 tyX10 tyX10_ok nmX10 hown hK hPD.1 hPD.2 hS 0 rfl rfl 36 (by decide) (hts _ gw_690) (fun _ h9 => h9) rfl (by decide +kernel) rfl rfl (Nat.le_of_ble_eq_true rfl) dX10_readsStep_77 (fun H locs hP hD hS => ?_)
      obtain ⟨f0_24, ef0_24, h⟩ := lvl h
      have hPD : WD G DA (wX10 G h0 a0 f0_24 A0_23) H := by rw [ef0_24]; exact ⟨hP, hD⟩
      clear ef0_24 hP hD
      refine lv_aload_n hx hb dX10_readsStep_80 rfl (lv_at hl 0 rfl) ?_
      refine lv_aload_n hx hb dX10_readsStep_81 rfl (lv_at hl 0 rfl) ?_
      refine va_get (D := G.1) (ci := 10) (v := .int (f0_24 9)) (C := RX10) (T := TX10) (N := 52) hx hb hts inlX10 hown hK hPD.1 0 rfl rfl 9 (by decide) (hts _ gw_554) (fun _ h9 => h9) rfl dX10_readsStep_82 ?_
      refine lv_iconst (v := 1) hx hb dX10_readsStep_85 (by decide) ?_
      refine lv_iadd hx hb dX10_readsStep_86 ?_
      refine va_put (D := G.1) (ci := 10) (v := .int ((f0_24 9) + 1)) (ty := .int) (C := RX10) (T := TX10) (N := 52) hx hb hts inlX10 tyX10 tyX10_ok nmX10 hown hK hPD.1 hPD.2 hS 0 rfl rfl 9 (by decide) (hts _ gw_554) (fun _ h9 => h9) rfl (by decide +kernel) rfl rfl (Nat.le_of_ble_eq_true rfl) dX10_readsStep_87 (fun H locs hP hD hS => ?_)
      obtain ⟨f0_25, ef0_25, h⟩ := lvl h
      have hPD : WD G DA (wX10 G h0 a0 f0_25 A0_23) H := by rw [ef0_25]; exact ⟨hP, hD⟩
      clear ef0_25 hP hD
      refine lv_aload_n hx hb dX10_readsStep_90 rfl (lv_at hl 0 rfl) ?_
      obtain ⟨q_26, hq_26, h⟩ := ob2 h
      refine kVV (As := []) (rest := []) C0 (kt_X10_readsTimes l G h0 a0 f0_25 A0_23 hq_26) gi_V_X10_259_X10_readsTimes (n := 0) rfl (by decide +kernel) rfl ⟨rfl, rfl, Nat.le_of_ble_eq_true rfl, Nat.le_of_ble_eq_true rfl⟩ hPD hS 0 10 rfl rfl rfl [0, 1, 2, 3, 4, 5, 6, 7, 8, 9, 10, 11, 12, 13, 14, 15, 16, 17, 18, 19, 20, 21, 22, 23, 24, 25, 26, 27, 28, 29, 30, 31, 32, 33] [] [0, 1, 2, 3, 4, 5, 6, 7, 8, 9, 10, 11, 12, 13, 14, 15, 16, 17, 18, 19, 20, 21, 22, 23, 24, 25, 26, 27, 28, 29, 30, 31, 32, 33] (wN := (wX10 G h0 a0 q_26 A0_23)) rfl rfl rfl rfl rfl hl.1 (Nat.le_of_ble_eq_true rfl) dX10_readsStep_91 (fun H locs hPD hS => ?_)
      refine lv_goto (tgt := 4) hx hb dX10_readsStep_94 (by decide) ?_
      exact hk4 A0_23 q_26 h _ _ _ hPD hS (lv_sub hl [0] rfl)
    · have h := (if_pos cc1).symm.trans h
      refine lv_aload_n hx hb dX10_readsStep_21 rfl (lv_at hl 0 rfl) ?_
      refine lv_iconst (v := 5) hx hb dX10_readsStep_22 (by decide) ?_
      refine lv_aload_n hx hb dX10_readsStep_23 rfl (lv_at hl 0 rfl) ?_
      refine va_get (D := G.1) (ci := 10) (v := .int (f0 9)) (C := RX10) (T := TX10) (N := 52) hx hb hts inlX10 hown hK hPD.1 0 rfl rfl 9 (by decide) (hts _ gw_554) (fun _ h9 => h9) rfl dX10_readsStep_24 ?_
      obtain ⟨q_27, hq_27, h⟩ := ob2 h
      refine kVI (As := [.int 5, .int (f0 9)]) (rest := []) C0 (kt_X10_wrongAt l G h0 a0 f0 A0 5 (f0 9) hq_27) gi_V_X10_151_X10_wrongAt (n := 2) rfl (by decide +kernel) rfl ⟨rfl, rfl, Nat.le_of_ble_eq_true rfl, Nat.le_of_ble_eq_true rfl⟩ hPD hS 0 10 rfl rfl rfl [0, 1, 2, 3, 4, 5, 6, 7, 8, 9, 10, 11, 12, 13, 14, 15, 16, 17, 18, 19, 20, 21, 22, 23, 24, 25, 26, 27, 28, 29, 30, 31, 32, 33] [] [0, 1, 2, 3, 4, 5, 6, 7, 8, 9, 10, 11, 12, 13, 14, 15, 16, 17, 18, 19, 20, 21, 22, 23, 24, 25, 26, 27, 28, 29, 30, 31, 32, 33] (wN := (wX10 G h0 a0 q_27.2 A0)) rfl rfl rfl rfl rfl hl.1 (Nat.le_of_ble_eq_true rfl) dX10_readsStep_27 (fun H locs hPD hS => ?_)
      obtain ⟨hz, h⟩ := ob h
      obtain rfl := Option.some.inj h
      exact eZ C0 hPD.1 hPD.2 hS rfl (nbool (Classical.not_not.mp hz)) dX10_readsStep_30
set_option maxRecDepth 100000 in
set_option maxHeartbeats 4000000 in
theorem ww_f10_readsStep_l4  (C0 : Cx cX10_readsStep 4 (some .boolean) RX10 p s m args meth c G DA) {h0 : Nat} {a0 : Nat → Nat}   {res : Int32 × (Nat → Nat → Int32) × (Nat → Int32)}  : ∀ (n : Nat) (A0 : Nat → Nat → Int32) (f0 : Nat → Int32), f10_readsStep_l4   n A0 f0 = some res → ∀ (H : Heap) (locs : List Loc) (ls : Array Slot), WD G DA (wX10 G h0 a0 f0 A0) H → va_S DA s.heap H locs → lv_has ls 4 [(0, .ref h0)] → W p l e rmX10_readsStep s m args below meth c H locs 0 0 (MQ below (QI G DA res.1 (wX10 G h0 a0 res.2.2 res.2.1)) args s 0 0 DA) (F0 m 4 ls []) := by
  intro n
  induction n with
  | zero => intro A0 f0 h; cases h
  | succ n ih => intro A0 f0 h; exact ww_f10_readsStep_b4 C0  ih A0 f0 h
set_option maxRecDepth 100000 in
set_option maxHeartbeats 4000000 in
theorem kt_X10_readsStep (l : Launch) (G : Gp) (h0 : Nat) (a0 : Nat → Nat) (f0 : Nat → Int32) (A0 : Nat → Nat → Int32) : ∀ {r : Int32 × (Nat → Nat → Int32) × (Nat → Int32)}, f10_readsStep f0 A0 = some r → CtrI l yX10_readsStep cX10_readsStep 4 (some .boolean) rmX10_readsStep G [.ref h0] (wX10 G h0 a0 f0 A0) r.1 (wX10 G h0 a0 r.2.2 r.2.1) := by
  intro res h
  refine ctrI_of (cc := cX10_readsStep) (maxL := 4) (ret := (some .boolean)) (by decide +kernel) rfl (Nat.le_of_ble_eq_true rfl) (fun p e s m below meth c DA C0 hP hD ls hl => ?_)
  have hPD : WD G DA (wX10 G h0 a0 f0 A0) s.heap := ⟨hP, hD⟩
  have hS : va_S DA s.heap s.heap [] := va_S.rf
  have hl : lv_has ls 4 [(0, .ref h0)] := hl
  obtain ⟨hx, hb, hml, hown, hts⟩ := C0.1
  have hK := C0.2.2.2.1
  unfold f10_readsStep at h
  refine lv_aload_n hx hb dX10_readsStep_0 rfl (lv_at hl 0 rfl) ?_
  obtain ⟨q_1, hq_1, h⟩ := ob2 h
  refine kVV (As := []) (rest := []) C0 (kt_X10_readsTimes l G h0 a0 f0 A0 hq_1) gi_V_X10_259_X10_readsTimes (n := 0) rfl (by decide +kernel) rfl ⟨rfl, rfl, Nat.le_of_ble_eq_true rfl, Nat.le_of_ble_eq_true rfl⟩ hPD hS 0 10 rfl rfl rfl [0, 1, 2, 3, 4, 5, 6, 7, 8, 9, 10, 11, 12, 13, 14, 15, 16, 17, 18, 19, 20, 21, 22, 23, 24, 25, 26, 27, 28, 29, 30, 31, 32, 33] [] [0, 1, 2, 3, 4, 5, 6, 7, 8, 9, 10, 11, 12, 13, 14, 15, 16, 17, 18, 19, 20, 21, 22, 23, 24, 25, 26, 27, 28, 29, 30, 31, 32, 33] (wN := (wX10 G h0 a0 q_1 A0)) rfl rfl rfl rfl rfl hl.1 (Nat.le_of_ble_eq_true rfl) dX10_readsStep_1 (fun H locs hPD hS => ?_)
  exact ww_f10_readsStep_l4 C0 NF A0 q_1 h _ _ _ hPD hS (lv_sub hl [0] rfl)
abbrev rmX10_beat : Room := { frames := 3, cells := 0, slots := 0, locals := 70 }
set_option maxRecDepth 100000 in
set_option maxHeartbeats 4000000 in
theorem ww_f10_beat_b107  (C0 : Cx cX10_beat 5 (some .int) RX10 p s m args meth c G DA) {h0 : Nat} {a0 : Nat → Nat} {p1 : Int32} {p2 : Int32}  {k107 : (Nat → Nat → Int32) → (Nat → Int32) → Int32 → Option (Int32 × (Nat → Nat → Int32) × (Nat → Int32))} {res : Int32 × (Nat → Nat → Int32) × (Nat → Int32)}  (hk107 : ∀ (A0 : Nat → Nat → Int32) (f0 : Nat → Int32) (l4 : Int32), k107 A0 f0 l4 = some res → ∀ (H : Heap) (locs : List Loc) (ls : Array Slot), WD G DA (wX10 G h0 a0 f0 A0) H → va_S DA s.heap H locs → lv_has ls 5 [(0, .ref h0), (1, .int p1), (2, .int p2), (4, .int l4)] → W p l e rmX10_beat s m args below meth c H locs 0 0 (MQ below (QI G DA res.1 (wX10 G h0 a0 res.2.2 res.2.1)) args s 0 0 DA) (F0 m 107 ls [])) : ∀ (A0 : Nat → Nat → Int32) (f0 : Nat → Int32) (l4 : Int32), f10_beat_b107 p1 p2  k107 A0 f0 l4 = some res → ∀ (H : Heap) (locs : List Loc) (ls : Array Slot), WD G DA (wX10 G h0 a0 f0 A0) H → va_S DA s.heap H locs → lv_has ls 5 [(0, .ref h0), (1, .int p1), (2, .int p2), (4, .int l4)] → W p l e rmX10_beat s m args below meth c H locs 0 0 (MQ below (QI G DA res.1 (wX10 G h0 a0 res.2.2 res.2.1)) args s 0 0 DA) (F0 m 107 ls []) := by
  obtain ⟨hx, hb, hml, hown, hts⟩ := C0.1
  have hK := C0.2.2.2.1
  intro A0 f0 l4 h _ _ _ hPD hS hl
  unfold f10_beat_b107 at h
  refine lv_iload hx hb dX10_beat_107 (lv_at hl 3 rfl) ?_
  refine lv_aload_n hx hb dX10_beat_109 rfl (lv_at hl 0 rfl) ?_
  refine va_get (D := G.1) (ci := 10) (v := .int (f0 35)) (C := RX10) (T := TX10) (N := 52) hx hb hts inlX10 hown hK hPD.1 0 rfl rfl 35 (by decide) (hts _ gw_680) (fun _ h9 => h9) rfl dX10_beat_110 ?_
  refine lv_icmp_ge (tgt := 141) hx hb dX10_beat_113 (by decide) (fun cc1 => ?_) (fun cc1 => ?_)
  · have h := (if_pos cc1).symm.trans h
    refine lv_aload_n hx hb dX10_beat_141 rfl (lv_at hl 0 rfl) ?_
    refine va_get (D := G.1) (ci := 10) (v := .int (f0 35)) (C := RX10) (T := TX10) (N := 52) hx hb hts inlX10 hown hK hPD.1 0 rfl rfl 35 (by decide) (hts _ gw_680) (fun _ h9 => h9) rfl dX10_beat_142 ?_
    obtain rfl := Option.some.inj h
    exact eI C0 hPD.1 hPD.2 hS rfl dX10_beat_145
  · have h := (if_neg cc1).symm.trans h
    refine lv_aload_n hx hb dX10_beat_116 rfl (lv_at hl 0 rfl) ?_
    refine va_get (D := G.1) (ci := 10) (v := .ref (a0 5)) (C := RX10) (T := TX10) (N := 52) hx hb hts inlX10 hown hK hPD.1 0 rfl rfl 5 (by decide) (hts _ gw_699) (fun _ h9 => h9) rfl dX10_beat_117 ?_
    refine lv_bipush (v := 48) hx hb dX10_beat_120 (by decide) ?_
    refine lv_iload_n hx hb dX10_beat_122 rfl (lv_at hl 1 rfl) ?_
    refine lv_imul hx hb dX10_beat_123 ?_
    refine lv_iload hx hb dX10_beat_124 (lv_at hl 3 rfl) ?_
    refine lv_iadd hx hb dX10_beat_126 ?_
    refine lv_aload_n hx hb dX10_beat_127 rfl (lv_at hl 0 rfl) ?_
    refine va_get (D := G.1) (ci := 10) (v := .ref (a0 31)) (C := RX10) (T := TX10) (N := 52) hx hb hts inlX10 hown hK hPD.1 0 rfl rfl 31 (by decide) (hts _ gw_681) (fun _ h9 => h9) rfl dX10_beat_128 ?_
    refine lv_iload hx hb dX10_beat_131 (lv_at hl 3 rfl) ?_
    obtain ⟨hi_7, h⟩ := ob h
    refine va_iald hx hb hK hPD.1 21 1 rfl rfl hi_7 dX10_beat_133 ?_
    obtain ⟨hi_8, h⟩ := ob h
    refine va_iast hx hb hK hPD.1 hPD.2 hS 6 1 rfl rfl hi_8 dX10_beat_134 (fun H locs hP hD hS => ?_)
    obtain ⟨A0_9, eA0_9, h⟩ := lvl h
    have hPD : WD G DA (wX10 G h0 a0 f0 A0_9) H := by rw [eA0_9]; exact ⟨hP, hD⟩
    clear eA0_9 hP hD
    refine lv_iinc (v := l4 + 1) (lv' := [(4, .int (l4 + 1)), (0, .ref h0), (1, .int p1), (2, .int p2)]) hx hb dX10_beat_135 hl (k := 3) rfl rfl (by decide) rfl (fun ls hl => ?_)
    refine lv_goto (tgt := 107) hx hb dX10_beat_138 (by decide) ?_
    exact hk107 A0_9 f0 (l4 + 1) h _ _ _ hPD hS (lv_sub hl [1, 2, 3, 0] rfl)
set_option maxRecDepth 100000 in
set_option maxHeartbeats 4000000 in
theorem ww_f10_beat_l107  (C0 : Cx cX10_beat 5 (some .int) RX10 p s m args meth c G DA) {h0 : Nat} {a0 : Nat → Nat} {p1 : Int32} {p2 : Int32}   {res : Int32 × (Nat → Nat → Int32) × (Nat → Int32)}  : ∀ (n : Nat) (A0 : Nat → Nat → Int32) (f0 : Nat → Int32) (l4 : Int32), f10_beat_l107 p1 p2  n A0 f0 l4 = some res → ∀ (H : Heap) (locs : List Loc) (ls : Array Slot), WD G DA (wX10 G h0 a0 f0 A0) H → va_S DA s.heap H locs → lv_has ls 5 [(0, .ref h0), (1, .int p1), (2, .int p2), (4, .int l4)] → W p l e rmX10_beat s m args below meth c H locs 0 0 (MQ below (QI G DA res.1 (wX10 G h0 a0 res.2.2 res.2.1)) args s 0 0 DA) (F0 m 107 ls []) := by
  intro n
  induction n with
  | zero => intro A0 f0 l4 h; cases h
  | succ n ih => intro A0 f0 l4 h; exact ww_f10_beat_b107 C0  ih A0 f0 l4 h
set_option maxRecDepth 100000 in
set_option maxHeartbeats 4000000 in
theorem ww_f10_beat_b80  (C0 : Cx cX10_beat 5 (some .int) RX10 p s m args meth c G DA) {h0 : Nat} {a0 : Nat → Nat} {p1 : Int32} {p2 : Int32}   {res : Int32 × (Nat → Nat → Int32) × (Nat → Int32)}  : ∀ (A0 : Nat → Nat → Int32) (f0 : Nat → Int32) (l3 : Int32), f10_beat_b80 p1 p2  A0 f0 l3 = some res → ∀ (H : Heap) (locs : List Loc) (ls : Array Slot), WD G DA (wX10 G h0 a0 f0 A0) H → va_S DA s.heap H locs → lv_has ls 5 [(0, .ref h0), (1, .int p1), (2, .int p2), (3, .int l3)] → W p l e rmX10_beat s m args below meth c H locs 0 0 (MQ below (QI G DA res.1 (wX10 G h0 a0 res.2.2 res.2.1)) args s 0 0 DA) (F0 m 80 ls []) := by
  obtain ⟨hx, hb, hml, hown, hts⟩ := C0.1
  have hK := C0.2.2.2.1
  intro A0 f0 l3 h _ _ _ hPD hS hl
  unfold f10_beat_b80 at h
  refine lv_aload_n hx hb dX10_beat_80 rfl (lv_at hl 0 rfl) ?_
  refine lv_iconst (v := 0) hx hb dX10_beat_81 (by decide) ?_
  refine va_put (D := G.1) (ci := 10) (v := .int 0) (ty := .int) (C := RX10) (T := TX10) (N := 52) hx hb hts inlX10 tyX10 tyX10_ok nmX10 hown hK hPD.1 hPD.2 hS 0 rfl rfl 8 (by decide) (hts _ gw_549) (fun _ h9 => h9) rfl (by decide +kernel) rfl rfl (Nat.le_of_ble_eq_true rfl) dX10_beat_82 (fun H locs hP hD hS => ?_)
  obtain ⟨f0_4, ef0_4, h⟩ := lvl h
  have hPD : WD G DA (wX10 G h0 a0 f0_4 A0) H := by rw [ef0_4]; exact ⟨hP, hD⟩
  clear ef0_4 hP hD
  refine lv_iload_n hx hb dX10_beat_85 rfl (lv_at hl 3 rfl) ?_
  refine lv_if_ne (tgt := 94) hx hb dX10_beat_86 (by decide) (fun cc1 => ?_) (fun cc1 => ?_)
  · have h := (if_neg cc1).symm.trans h
    refine lv_aload_n hx hb dX10_beat_94 rfl (lv_at hl 0 rfl) ?_
    refine va_get (D := G.1) (ci := 10) (v := .ref (a0 4)) (C := RX10) (T := TX10) (N := 52) hx hb hts inlX10 hown hK hPD.1 0 rfl rfl 4 (by decide) (hts _ gw_698) (fun _ h9 => h9) rfl dX10_beat_95 ?_
    refine lv_iload_n hx hb dX10_beat_98 rfl (lv_at hl 1 rfl) ?_
    refine lv_aload_n hx hb dX10_beat_99 rfl (lv_at hl 0 rfl) ?_
    refine va_get (D := G.1) (ci := 10) (v := .int (f0_4 35)) (C := RX10) (T := TX10) (N := 52) hx hb hts inlX10 hown hK hPD.1 0 rfl rfl 35 (by decide) (hts _ gw_680) (fun _ h9 => h9) rfl dX10_beat_100 ?_
    obtain ⟨hi_5, h⟩ := ob h
    refine va_iast hx hb hK hPD.1 hPD.2 hS 5 1 rfl rfl hi_5 dX10_beat_103 (fun H locs hP hD hS => ?_)
    obtain ⟨A0_6, eA0_6, h⟩ := lvl h
    have hPD : WD G DA (wX10 G h0 a0 f0_4 A0_6) H := by rw [eA0_6]; exact ⟨hP, hD⟩
    clear eA0_6 hP hD
    refine lv_iconst (v := 0) hx hb dX10_beat_104 (by decide) ?_
    refine lv_istore (lv' := [(4, .int 0), (0, .ref h0), (1, .int p1), (2, .int p2), (3, .int l3)]) hx hb dX10_beat_105 hl (by decide) rfl (fun ls hl => ?_)
    exact ww_f10_beat_l107 C0 NF A0_6 f0_4 0 h _ _ _ hPD hS (lv_sub hl [1, 2, 3, 0] rfl)
  · have h := (if_pos cc1).symm.trans h
    refine lv_aload_n hx hb dX10_beat_89 rfl (lv_at hl 0 rfl) ?_
    refine va_get (D := G.1) (ci := 10) (v := .int (f0_4 11)) (C := RX10) (T := TX10) (N := 52) hx hb hts inlX10 hown hK hPD.1 0 rfl rfl 11 (by decide) (hts _ gw_560) (fun _ h9 => h9) rfl dX10_beat_90 ?_
    obtain rfl := Option.some.inj h
    exact eI C0 hPD.1 hPD.2 hS rfl dX10_beat_93
set_option maxRecDepth 100000 in
set_option maxHeartbeats 4000000 in
theorem ww_f10_beat_b50  (C0 : Cx cX10_beat 5 (some .int) RX10 p s m args meth c G DA) {h0 : Nat} {a0 : Nat → Nat} {p1 : Int32} {p2 : Int32}  {k50 : (Nat → Nat → Int32) → (Nat → Int32) → Int32 → Option (Int32 × (Nat → Nat → Int32) × (Nat → Int32))} {res : Int32 × (Nat → Nat → Int32) × (Nat → Int32)}  (hk50 : ∀ (A0 : Nat → Nat → Int32) (f0 : Nat → Int32) (l3 : Int32), k50 A0 f0 l3 = some res → ∀ (H : Heap) (locs : List Loc) (ls : Array Slot), WD G DA (wX10 G h0 a0 f0 A0) H → va_S DA s.heap H locs → lv_has ls 5 [(0, .ref h0), (1, .int p1), (2, .int p2), (3, .int l3)] → W p l e rmX10_beat s m args below meth c H locs 0 0 (MQ below (QI G DA res.1 (wX10 G h0 a0 res.2.2 res.2.1)) args s 0 0 DA) (F0 m 50 ls [])) : ∀ (A0 : Nat → Nat → Int32) (f0 : Nat → Int32) (l3 : Int32), f10_beat_b50 p1 p2  k50 A0 f0 l3 = some res → ∀ (H : Heap) (locs : List Loc) (ls : Array Slot), WD G DA (wX10 G h0 a0 f0 A0) H → va_S DA s.heap H locs → lv_has ls 5 [(0, .ref h0), (1, .int p1), (2, .int p2), (3, .int l3)] → W p l e rmX10_beat s m args below meth c H locs 0 0 (MQ below (QI G DA res.1 (wX10 G h0 a0 res.2.2 res.2.1)) args s 0 0 DA) (F0 m 50 ls []) := by
  obtain ⟨hx, hb, hml, hown, hts⟩ := C0.1
  have hK := C0.2.2.2.1
  intro A0 f0 l3 h _ _ _ hPD hS hl
  unfold f10_beat_b50 at h
  refine lv_iload_n hx hb dX10_beat_50 rfl (lv_at hl 3 rfl) ?_
  refine lv_if_eq (tgt := 80) hx hb dX10_beat_51 (by decide) (fun cc1 => ?_) (fun cc1 => ?_)
  · have h := (if_pos cc1).symm.trans h
    exact ww_f10_beat_b80 C0 A0 f0 l3 h _ _ _ hPD hS (lv_sub hl [0, 1, 2, 3] rfl)
  · have h := (if_neg cc1).symm.trans h
    refine lv_aload_n hx hb dX10_beat_54 rfl (lv_at hl 0 rfl) ?_
    refine va_get (D := G.1) (ci := 10) (v := .int (f0 9)) (C := RX10) (T := TX10) (N := 52) hx hb hts inlX10 hown hK hPD.1 0 rfl rfl 9 (by decide) (hts _ gw_554) (fun _ h9 => h9) rfl dX10_beat_55 ?_
    refine lv_aload_n hx hb dX10_beat_58 rfl (lv_at hl 0 rfl) ?_
    refine va_get (D := G.1) (ci := 10) (v := .int (f0 10)) (C := RX10) (T := TX10) (N := 52) hx hb hts inlX10 hown hK hPD.1 0 rfl rfl 10 (by decide) (hts _ gw_555) (fun _ h9 => h9) rfl dX10_beat_59 ?_
    refine lv_icmp_lt (tgt := 72) hx hb dX10_beat_62 (by decide) (fun cc1 => ?_) (fun cc1 => ?_)
    · have h := (if_pos cc1).symm.trans h
      refine lv_aload_n hx hb dX10_beat_72 rfl (lv_at hl 0 rfl) ?_
      obtain ⟨q_10, hq_10, h⟩ := ob2 h
      refine kVI (As := []) (rest := []) C0 (kt_X10_readsStep l G h0 a0 f0 A0 hq_10) gi_V_X10_268_X10_readsStep (n := 0) rfl (by decide +kernel) rfl ⟨rfl, rfl, Nat.le_of_ble_eq_true rfl, Nat.le_of_ble_eq_true rfl⟩ hPD hS 0 10 rfl rfl rfl [0, 1, 2, 3, 4, 5, 6, 7, 8, 9, 10, 11, 12, 13, 14, 15, 16, 17, 18, 19, 20, 21, 22, 23, 24, 25, 26, 27, 28, 29, 30, 31, 32, 33] [] [0, 1, 2, 3, 4, 5, 6, 7, 8, 9, 10, 11, 12, 13, 14, 15, 16, 17, 18, 19, 20, 21, 22, 23, 24, 25, 26, 27, 28, 29, 30, 31, 32, 33] (wN := (wX10 G h0 a0 q_10.2.2 q_10.2.1)) rfl rfl rfl rfl rfl hl.1 (Nat.le_of_ble_eq_true rfl) dX10_beat_73 (fun H locs hPD hS => ?_)
      refine lv_istore_n (lv' := [(3, .int q_10.1), (0, .ref h0), (1, .int p1), (2, .int p2)]) hx hb dX10_beat_76 rfl hl (by decide) rfl (fun ls hl => ?_)
      refine lv_goto (tgt := 50) hx hb dX10_beat_77 (by decide) ?_
      exact hk50 q_10.2.1 q_10.2.2 q_10.1 h _ _ _ hPD hS (lv_sub hl [1, 2, 3, 0] rfl)
    · have h := (if_neg cc1).symm.trans h
      refine lv_aload_n hx hb dX10_beat_65 rfl (lv_at hl 0 rfl) ?_
      refine va_get (D := G.1) (ci := 10) (v := .int (f0 36)) (C := RX10) (T := TX10) (N := 52) hx hb hts inlX10 hown hK hPD.1 0 rfl rfl 36 (by decide) (hts _ gw_690) (fun _ h9 => h9) rfl dX10_beat_66 ?_
      refine lv_if_le (tgt := 80) hx hb dX10_beat_69 (by decide) (fun cc1 => ?_) (fun cc1 => ?_)
      · have h := (if_pos cc1).symm.trans h
        exact ww_f10_beat_b80 C0 A0 f0 l3 h _ _ _ hPD hS (lv_sub hl [0, 1, 2, 3] rfl)
      · have h := (if_neg cc1).symm.trans h
        refine lv_aload_n hx hb dX10_beat_72 rfl (lv_at hl 0 rfl) ?_
        obtain ⟨q_11, hq_11, h⟩ := ob2 h
        refine kVI (As := []) (rest := []) C0 (kt_X10_readsStep l G h0 a0 f0 A0 hq_11) gi_V_X10_268_X10_readsStep (n := 0) rfl (by decide +kernel) rfl ⟨rfl, rfl, Nat.le_of_ble_eq_true rfl, Nat.le_of_ble_eq_true rfl⟩ hPD hS 0 10 rfl rfl rfl [0, 1, 2, 3, 4, 5, 6, 7, 8, 9, 10, 11, 12, 13, 14, 15, 16, 17, 18, 19, 20, 21, 22, 23, 24, 25, 26, 27, 28, 29, 30, 31, 32, 33] [] [0, 1, 2, 3, 4, 5, 6, 7, 8, 9, 10, 11, 12, 13, 14, 15, 16, 17, 18, 19, 20, 21, 22, 23, 24, 25, 26, 27, 28, 29, 30, 31, 32, 33] (wN := (wX10 G h0 a0 q_11.2.2 q_11.2.1)) rfl rfl rfl rfl rfl hl.1 (Nat.le_of_ble_eq_true rfl) dX10_beat_73 (fun H locs hPD hS => ?_)
        refine lv_istore_n (lv' := [(3, .int q_11.1), (0, .ref h0), (1, .int p1), (2, .int p2)]) hx hb dX10_beat_76 rfl hl (by decide) rfl (fun ls hl => ?_)
        refine lv_goto (tgt := 50) hx hb dX10_beat_77 (by decide) ?_
        exact hk50 q_11.2.1 q_11.2.2 q_11.1 h _ _ _ hPD hS (lv_sub hl [1, 2, 3, 0] rfl)
set_option maxRecDepth 100000 in
set_option maxHeartbeats 4000000 in
theorem ww_f10_beat_l50  (C0 : Cx cX10_beat 5 (some .int) RX10 p s m args meth c G DA) {h0 : Nat} {a0 : Nat → Nat} {p1 : Int32} {p2 : Int32}   {res : Int32 × (Nat → Nat → Int32) × (Nat → Int32)}  : ∀ (n : Nat) (A0 : Nat → Nat → Int32) (f0 : Nat → Int32) (l3 : Int32), f10_beat_l50 p1 p2  n A0 f0 l3 = some res → ∀ (H : Heap) (locs : List Loc) (ls : Array Slot), WD G DA (wX10 G h0 a0 f0 A0) H → va_S DA s.heap H locs → lv_has ls 5 [(0, .ref h0), (1, .int p1), (2, .int p2), (3, .int l3)] → W p l e rmX10_beat s m args below meth c H locs 0 0 (MQ below (QI G DA res.1 (wX10 G h0 a0 res.2.2 res.2.1)) args s 0 0 DA) (F0 m 50 ls []) := by
  intro n
  induction n with
  | zero => intro A0 f0 l3 h; cases h
  | succ n ih => intro A0 f0 l3 h; exact ww_f10_beat_b50 C0  ih A0 f0 l3 h
set_option maxRecDepth 100000 in
set_option maxHeartbeats 4000000 in
theorem kt_X10_beat (l : Launch) (G : Gp) (h0 : Nat) (a0 : Nat → Nat) (f0 : Nat → Int32) (A0 : Nat → Nat → Int32) (p1 : Int32) (p2 : Int32) : ∀ {r : Int32 × (Nat → Nat → Int32) × (Nat → Int32)}, f10_beat f0 A0 p1 p2 = some r → CtrI l yX10_beat cX10_beat 5 (some .int) rmX10_beat G [.ref h0, .int p1, .int p2] (wX10 G h0 a0 f0 A0) r.1 (wX10 G h0 a0 r.2.2 r.2.1) := by
  intro res h
  refine ctrI_of (cc := cX10_beat) (maxL := 5) (ret := (some .int)) (by decide +kernel) rfl (Nat.le_of_ble_eq_true rfl) (fun p e s m below meth c DA C0 hP hD ls hl => ?_)
  have hPD : WD G DA (wX10 G h0 a0 f0 A0) s.heap := ⟨hP, hD⟩
  have hS : va_S DA s.heap s.heap [] := va_S.rf
  have hl : lv_has ls 5 [(0, .ref h0), (1, .int p1), (2, .int p2)] := hl
  obtain ⟨hx, hb, hml, hown, hts⟩ := C0.1
  have hK := C0.2.2.2.1
  unfold f10_beat at h
  refine lv_iload_n hx hb dX10_beat_0 rfl (lv_at hl 1 rfl) ?_
  refine lv_iconst (v := 0) hx hb dX10_beat_1 (by decide) ?_
  refine lv_bipush (v := 7) hx hb dX10_beat_2 (by decide) ?_
  refine kSI (As := [.int p1, .int 0, .int 7]) (rest := []) C0 (kt_X10_in l G  p1 0 7) gi_S_X10_112_X10_in (n := 3) rfl (by decide +kernel) ⟨rfl, rfl, Nat.le_of_ble_eq_true rfl, Nat.le_of_ble_eq_true rfl⟩ hPD hS [] [0, 1, 2, 3, 4, 5, 6, 7, 8, 9, 10, 11, 12, 13, 14, 15, 16, 17, 18, 19, 20, 21, 22, 23, 24, 25, 26, 27, 28, 29, 30, 31, 32, 33] [0, 1, 2, 3, 4, 5, 6, 7, 8, 9, 10, 11, 12, 13, 14, 15, 16, 17, 18, 19, 20, 21, 22, 23, 24, 25, 26, 27, 28, 29, 30, 31, 32, 33] (wN := (wX10 G h0 a0 f0 A0)) rfl rfl rfl rfl rfl hl.1 (Nat.le_of_ble_eq_true rfl) dX10_beat_4 (fun H locs hPD hS => ?_)
  refine lv_if_eq (tgt := 28) hx hb dX10_beat_7 (by decide) (fun cc1 => ?_) (fun cc1 => ?_)
  · have h := (if_pos cc1).symm.trans h
    refine lv_iconst (v := (-1)) hx hb dX10_beat_28 (by decide) ?_
    obtain rfl := Option.some.inj h
    exact eI C0 hPD.1 hPD.2 hS rfl dX10_beat_29
  · have h := (if_neg cc1).symm.trans h
    refine lv_iload_n hx hb dX10_beat_10 rfl (lv_at hl 2 rfl) ?_
    refine lv_iconst (v := 1) hx hb dX10_beat_11 (by decide) ?_
    refine lv_bipush (v := 60) hx hb dX10_beat_12 (by decide) ?_
    refine kSI (As := [.int p2, .int 1, .int 60]) (rest := []) C0 (kt_X10_in l G  p2 1 60) gi_S_X10_112_X10_in (n := 3) rfl (by decide +kernel) ⟨rfl, rfl, Nat.le_of_ble_eq_true rfl, Nat.le_of_ble_eq_true rfl⟩ hPD hS [] [0, 1, 2, 3, 4, 5, 6, 7, 8, 9, 10, 11, 12, 13, 14, 15, 16, 17, 18, 19, 20, 21, 22, 23, 24, 25, 26, 27, 28, 29, 30, 31, 32, 33] [0, 1, 2, 3, 4, 5, 6, 7, 8, 9, 10, 11, 12, 13, 14, 15, 16, 17, 18, 19, 20, 21, 22, 23, 24, 25, 26, 27, 28, 29, 30, 31, 32, 33] (wN := (wX10 G h0 a0 f0 A0)) rfl rfl rfl rfl rfl hl.1 (Nat.le_of_ble_eq_true rfl) dX10_beat_14 (fun H locs hPD hS => ?_)
    refine lv_if_eq (tgt := 28) hx hb dX10_beat_17 (by decide) (fun cc1 => ?_) (fun cc1 => ?_)
    · have h := (if_pos cc1).symm.trans h
      refine lv_iconst (v := (-1)) hx hb dX10_beat_28 (by decide) ?_
      obtain rfl := Option.some.inj h
      exact eI C0 hPD.1 hPD.2 hS rfl dX10_beat_29
    · have h := (if_neg cc1).symm.trans h
      refine lv_iload_n hx hb dX10_beat_20 rfl (lv_at hl 2 rfl) ?_
      refine lv_aload_n hx hb dX10_beat_21 rfl (lv_at hl 0 rfl) ?_
      refine va_get (D := G.1) (ci := 10) (v := .int (f0 8)) (C := RX10) (T := TX10) (N := 52) hx hb hts inlX10 hown hK hPD.1 0 rfl rfl 8 (by decide) (hts _ gw_549) (fun _ h9 => h9) rfl dX10_beat_22 ?_
      refine lv_icmp_le (tgt := 30) hx hb dX10_beat_25 (by decide) (fun cc1 => ?_) (fun cc1 => ?_)
      · have h := (if_pos cc1).symm.trans h
        refine lv_aload_n hx hb dX10_beat_30 rfl (lv_at hl 0 rfl) ?_
        refine lv_iload_n hx hb dX10_beat_31 rfl (lv_at hl 2 rfl) ?_
        refine kVV (As := [.int p2]) (rest := []) C0 (kt_X10_beginsText l G h0 a0 f0 A0 p2) gi_V_X10_221_X10_beginsText (n := 1) rfl (by decide +kernel) rfl ⟨rfl, rfl, Nat.le_of_ble_eq_true rfl, Nat.le_of_ble_eq_true rfl⟩ hPD hS 0 10 rfl rfl rfl [0, 1, 2, 3, 4, 5, 6, 7, 8, 9, 10, 11, 12, 13, 14, 15, 16, 17, 18, 19, 20, 21, 22, 23, 24, 25, 26, 27, 28, 29, 30, 31, 32, 33] [] [0, 1, 2, 3, 4, 5, 6, 7, 8, 9, 10, 11, 12, 13, 14, 15, 16, 17, 18, 19, 20, 21, 22, 23, 24, 25, 26, 27, 28, 29, 30, 31, 32, 33] (wN := (wX10 G h0 a0 (f10_beginsText f0 A0 p2) A0)) rfl rfl rfl rfl rfl hl.1 (Nat.le_of_ble_eq_true rfl) dX10_beat_32 (fun H locs hPD hS => ?_)
        refine lv_aload_n hx hb dX10_beat_35 rfl (lv_at hl 0 rfl) ?_
        refine lv_iconst (v := 0) hx hb dX10_beat_36 (by decide) ?_
        refine va_put (D := G.1) (ci := 10) (v := .int 0) (ty := .int) (C := RX10) (T := TX10) (N := 52) hx hb hts inlX10 tyX10 tyX10_ok nmX10 hown hK hPD.1 hPD.2 hS 0 rfl rfl 35 (by decide) (hts _ gw_680) (fun _ h9 => h9) rfl (by decide +kernel) rfl rfl (Nat.le_of_ble_eq_true rfl) dX10_beat_37 (fun H locs hP hD hS => ?_)
        obtain ⟨f0_1, ef0_1, h⟩ := lvl h
        have hPD : WD G DA (wX10 G h0 a0 f0_1 A0) H := by rw [ef0_1]; exact ⟨hP, hD⟩
        clear ef0_1 hP hD
        refine lv_aload_n hx hb dX10_beat_40 rfl (lv_at hl 0 rfl) ?_
        refine lv_iconst (v := 0) hx hb dX10_beat_41 (by decide) ?_
        refine va_put (D := G.1) (ci := 10) (v := .int 0) (ty := .int) (C := RX10) (T := TX10) (N := 52) hx hb hts inlX10 tyX10 tyX10_ok nmX10 hown hK hPD.1 hPD.2 hS 0 rfl rfl 36 (by decide) (hts _ gw_690) (fun _ h9 => h9) rfl (by decide +kernel) rfl rfl (Nat.le_of_ble_eq_true rfl) dX10_beat_42 (fun H locs hP hD hS => ?_)
        obtain ⟨f0_2, ef0_2, h⟩ := lvl h
        have hPD : WD G DA (wX10 G h0 a0 f0_2 A0) H := by rw [ef0_2]; exact ⟨hP, hD⟩
        clear ef0_2 hP hD
        refine lv_aload_n hx hb dX10_beat_45 rfl (lv_at hl 0 rfl) ?_
        obtain ⟨q_3, hq_3, h⟩ := ob2 h
        refine kVI (As := []) (rest := []) C0 (kt_X10_readsStep l G h0 a0 f0_2 A0 hq_3) gi_V_X10_268_X10_readsStep (n := 0) rfl (by decide +kernel) rfl ⟨rfl, rfl, Nat.le_of_ble_eq_true rfl, Nat.le_of_ble_eq_true rfl⟩ hPD hS 0 10 rfl rfl rfl [0, 1, 2, 3, 4, 5, 6, 7, 8, 9, 10, 11, 12, 13, 14, 15, 16, 17, 18, 19, 20, 21, 22, 23, 24, 25, 26, 27, 28, 29, 30, 31, 32, 33] [] [0, 1, 2, 3, 4, 5, 6, 7, 8, 9, 10, 11, 12, 13, 14, 15, 16, 17, 18, 19, 20, 21, 22, 23, 24, 25, 26, 27, 28, 29, 30, 31, 32, 33] (wN := (wX10 G h0 a0 q_3.2.2 q_3.2.1)) rfl rfl rfl rfl rfl hl.1 (Nat.le_of_ble_eq_true rfl) dX10_beat_46 (fun H locs hPD hS => ?_)
        refine lv_istore_n (lv' := [(3, .int q_3.1), (0, .ref h0), (1, .int p1), (2, .int p2)]) hx hb dX10_beat_49 rfl hl (by decide) rfl (fun ls hl => ?_)
        exact ww_f10_beat_l50 C0 NF q_3.2.1 q_3.2.2 q_3.1 h _ _ _ hPD hS (lv_sub hl [1, 2, 3, 0] rfl)
      · have h := (if_neg cc1).symm.trans h
        refine lv_iconst (v := (-1)) hx hb dX10_beat_28 (by decide) ?_
        obtain rfl := Option.some.inj h
        exact eI C0 hPD.1 hPD.2 hS rfl dX10_beat_29
abbrev rmX10_isLetter : Room := { frames := 1, cells := 0, slots := 0, locals := 22 }
set_option maxRecDepth 100000 in
set_option maxHeartbeats 4000000 in
theorem kt_X10_isLetter (l : Launch) (G : Gp) (h0 : Nat) (a0 : Nat → Nat) (f0 : Nat → Int32) (A0 : Nat → Nat → Int32) : ∀ {r : Int32}, f10_isLetter f0 A0 = some r → CtrI l yX10_isLetter cX10_isLetter 1 (some .boolean) rmX10_isLetter G [.ref h0] (wX10 G h0 a0 f0 A0) r (wX10 G h0 a0 f0 A0) := by
  intro res h
  refine ctrI_of (cc := cX10_isLetter) (maxL := 1) (ret := (some .boolean)) (by decide +kernel) rfl (Nat.le_of_ble_eq_true rfl) (fun p e s m below meth c DA C0 hP hD ls hl => ?_)
  have hPD : WD G DA (wX10 G h0 a0 f0 A0) s.heap := ⟨hP, hD⟩
  have hS : va_S DA s.heap s.heap [] := va_S.rf
  have hl : lv_has ls 1 [(0, .ref h0)] := hl
  obtain ⟨hx, hb, hml, hown, hts⟩ := C0.1
  have hK := C0.2.2.2.1
  unfold f10_isLetter at h
  refine lv_aload_n hx hb dX10_isLetter_0 rfl (lv_at hl 0 rfl) ?_
  obtain ⟨q_1, hq_1, h⟩ := ob2 h
  refine kVI (As := []) (rest := []) C0 (kt_X10_here l G h0 a0 f0 A0 hq_1) gi_V_X10_144_X10_here (n := 0) rfl (by decide +kernel) rfl ⟨rfl, rfl, Nat.le_of_ble_eq_true rfl, Nat.le_of_ble_eq_true rfl⟩ hPD hS 0 10 rfl rfl rfl [0, 1, 2, 3, 4, 5, 6, 7, 8, 9, 10, 11, 12, 13, 14, 15, 16, 17, 18, 19, 20, 21, 22, 23, 24, 25, 26, 27, 28, 29, 30, 31, 32, 33] [] [0, 1, 2, 3, 4, 5, 6, 7, 8, 9, 10, 11, 12, 13, 14, 15, 16, 17, 18, 19, 20, 21, 22, 23, 24, 25, 26, 27, 28, 29, 30, 31, 32, 33] (wN := (wX10 G h0 a0 f0 A0)) rfl rfl rfl rfl rfl hl.1 (Nat.le_of_ble_eq_true rfl) dX10_isLetter_1 (fun H locs hPD hS => ?_)
  refine lv_bipush (v := 97) hx hb dX10_isLetter_4 (by decide) ?_
  refine lv_isub hx hb dX10_isLetter_6 ?_
  refine lv_iconst (v := 0) hx hb dX10_isLetter_7 (by decide) ?_
  refine lv_bipush (v := 15) hx hb dX10_isLetter_8 (by decide) ?_
  refine kSI (As := [.int (q_1 - 97), .int 0, .int 15]) (rest := []) C0 (kt_X10_in l G  (q_1 - 97) 0 15) gi_S_X10_112_X10_in (n := 3) rfl (by decide +kernel) ⟨rfl, rfl, Nat.le_of_ble_eq_true rfl, Nat.le_of_ble_eq_true rfl⟩ hPD hS [] [0, 1, 2, 3, 4, 5, 6, 7, 8, 9, 10, 11, 12, 13, 14, 15, 16, 17, 18, 19, 20, 21, 22, 23, 24, 25, 26, 27, 28, 29, 30, 31, 32, 33] [0, 1, 2, 3, 4, 5, 6, 7, 8, 9, 10, 11, 12, 13, 14, 15, 16, 17, 18, 19, 20, 21, 22, 23, 24, 25, 26, 27, 28, 29, 30, 31, 32, 33] (wN := (wX10 G h0 a0 f0 A0)) rfl rfl rfl rfl rfl hl.1 (Nat.le_of_ble_eq_true rfl) dX10_isLetter_10 (fun H locs hPD hS => ?_)
  obtain ⟨hz, h⟩ := ob h
  obtain rfl := Option.some.inj h
  exact eZ C0 hPD.1 hPD.2 hS rfl (nbool (Classical.not_not.mp hz)) dX10_isLetter_13
abbrev rmX10_readsAmount : Room := { frames := 2, cells := 0, slots := 0, locals := 40 }
set_option maxRecDepth 100000 in
set_option maxHeartbeats 4000000 in
theorem ww_f10_readsAmount_b27  (C0 : Cx cX10_readsAmount 3 (some .boolean) RX10 p s m args meth c G DA) {h0 : Nat} {a0 : Nat → Nat} {A0 : Nat → Nat → Int32} {p1 : Int32}  {k27 : (Nat → Int32) → Int32 → Option (Int32 × (Nat → Int32))} {res : Int32 × (Nat → Int32)}  (hk27 : ∀ (f0 : Nat → Int32) (l2 : Int32), k27 f0 l2 = some res → ∀ (H : Heap) (locs : List Loc) (ls : Array Slot), WD G DA (wX10 G h0 a0 f0 A0) H → va_S DA s.heap H locs → lv_has ls 3 [(0, .ref h0), (1, .int p1), (2, .int l2)] → W p l e rmX10_readsAmount s m args below meth c H locs 0 0 (MQ below (QI G DA res.1 (wX10 G h0 a0 res.2 A0)) args s 0 0 DA) (F0 m 27 ls [])) : ∀ (f0 : Nat → Int32) (l2 : Int32), f10_readsAmount_b27 A0 p1  k27 f0 l2 = some res → ∀ (H : Heap) (locs : List Loc) (ls : Array Slot), WD G DA (wX10 G h0 a0 f0 A0) H → va_S DA s.heap H locs → lv_has ls 3 [(0, .ref h0), (1, .int p1), (2, .int l2)] → W p l e rmX10_readsAmount s m args below meth c H locs 0 0 (MQ below (QI G DA res.1 (wX10 G h0 a0 res.2 A0)) args s 0 0 DA) (F0 m 27 ls []) := by
  obtain ⟨hx, hb, hml, hown, hts⟩ := C0.1
  have hK := C0.2.2.2.1
  intro f0 l2 h _ _ _ hPD hS hl
  unfold f10_readsAmount_b27 at h
  refine lv_aload_n hx hb dX10_readsAmount_27 rfl (lv_at hl 0 rfl) ?_
  obtain ⟨q_3, hq_3, h⟩ := ob2 h
  refine kVI (As := []) (rest := []) C0 (kt_X10_isDigit l G h0 a0 f0 A0 hq_3) gi_V_X10_157_X10_isDigit (n := 0) rfl (by decide +kernel) rfl ⟨rfl, rfl, Nat.le_of_ble_eq_true rfl, Nat.le_of_ble_eq_true rfl⟩ hPD hS 0 10 rfl rfl rfl [0, 1, 2, 3, 4, 5, 6, 7, 8, 9, 10, 11, 12, 13, 14, 15, 16, 17, 18, 19, 20, 21, 22, 23, 24, 25, 26, 27, 28, 29, 30, 31, 32, 33] [] [0, 1, 2, 3, 4, 5, 6, 7, 8, 9, 10, 11, 12, 13, 14, 15, 16, 17, 18, 19, 20, 21, 22, 23, 24, 25, 26, 27, 28, 29, 30, 31, 32, 33] (wN := (wX10 G h0 a0 f0 A0)) rfl rfl rfl rfl rfl hl.1 (Nat.le_of_ble_eq_true rfl) dX10_readsAmount_28 (fun H locs hPD hS => ?_)
  refine lv_if_eq (tgt := 86) hx hb dX10_readsAmount_31 (by decide) (fun cc1 => ?_) (fun cc1 => ?_)
  · have h := (if_pos cc1).symm.trans h
    refine lv_iconst (v := 1) hx hb dX10_readsAmount_86 (by decide) ?_
    obtain rfl := Option.some.inj h
    exact eZ C0 hPD.1 hPD.2 hS rfl rfl dX10_readsAmount_87
  · have h := (if_neg cc1).symm.trans h
    refine lv_aload_n hx hb dX10_readsAmount_34 rfl (lv_at hl 0 rfl) ?_
    refine va_get (D := G.1) (ci := 10) (v := .int (f0 9)) (C := RX10) (T := TX10) (N := 52) hx hb hts inlX10 hown hK hPD.1 0 rfl rfl 9 (by decide) (hts _ gw_554) (fun _ h9 => h9) rfl dX10_readsAmount_35 ?_
    refine lv_iload_n hx hb dX10_readsAmount_38 rfl (lv_at hl 2 rfl) ?_
    refine lv_iload_n hx hb dX10_readsAmount_39 rfl (lv_at hl 1 rfl) ?_
    refine lv_iadd hx hb dX10_readsAmount_40 ?_
    refine lv_icmp_ne (tgt := 54) hx hb dX10_readsAmount_41 (by decide) (fun cc1 => ?_) (fun cc1 => ?_)
    · have h := (if_neg cc1).symm.trans h
      refine lv_aload_n hx hb dX10_readsAmount_54 rfl (lv_at hl 0 rfl) ?_
      refine lv_bipush (v := 10) hx hb dX10_readsAmount_55 (by decide) ?_
      refine lv_aload_n hx hb dX10_readsAmount_57 rfl (lv_at hl 0 rfl) ?_
      refine va_get (D := G.1) (ci := 10) (v := .int (f0 12)) (C := RX10) (T := TX10) (N := 52) hx hb hts inlX10 hown hK hPD.1 0 rfl rfl 12 (by decide) (hts _ gw_565) (fun _ h9 => h9) rfl dX10_readsAmount_58 ?_
      refine lv_imul hx hb dX10_readsAmount_61 ?_
      refine lv_aload_n hx hb dX10_readsAmount_62 rfl (lv_at hl 0 rfl) ?_
      obtain ⟨q_4, hq_4, h⟩ := ob2 h
      refine kVI (As := []) (rest := [.int (10 * (f0 12)), .ref h0]) C0 (kt_X10_here l G h0 a0 f0 A0 hq_4) gi_V_X10_144_X10_here (n := 0) rfl (by decide +kernel) rfl ⟨rfl, rfl, Nat.le_of_ble_eq_true rfl, Nat.le_of_ble_eq_true rfl⟩ hPD hS 0 10 rfl rfl rfl [0, 1, 2, 3, 4, 5, 6, 7, 8, 9, 10, 11, 12, 13, 14, 15, 16, 17, 18, 19, 20, 21, 22, 23, 24, 25, 26, 27, 28, 29, 30, 31, 32, 33] [] [0, 1, 2, 3, 4, 5, 6, 7, 8, 9, 10, 11, 12, 13, 14, 15, 16, 17, 18, 19, 20, 21, 22, 23, 24, 25, 26, 27, 28, 29, 30, 31, 32, 33] (wN := (wX10 G h0 a0 f0 A0)) rfl rfl rfl rfl rfl hl.1 (Nat.le_of_ble_eq_true rfl) dX10_readsAmount_63 (fun H locs hPD hS => ?_)
      refine lv_iadd hx hb dX10_readsAmount_66 ?_
      refine lv_bipush (v := 48) hx hb dX10_readsAmount_67 (by decide) ?_
      refine lv_isub hx hb dX10_readsAmount_69 ?_
      refine va_put (D := G.1) (ci := 10) (v := .int (((10 * (f0 12)) + q_4) - 48)) (ty := .int) (C := RX10) (T := TX10) (N := 52) hx hb hts inlX10 tyX10 tyX10_ok nmX10 hown hK hPD.1 hPD.2 hS 0 rfl rfl 12 (by decide) (hts _ gw_565) (fun _ h9 => h9) rfl (by decide +kernel) rfl rfl (Nat.le_of_ble_eq_true rfl) dX10_readsAmount_70 (fun H locs hP hD hS => ?_)
      obtain ⟨f0_5, ef0_5, h⟩ := lvl h
      have hPD : WD G DA (wX10 G h0 a0 f0_5 A0) H := by rw [ef0_5]; exact ⟨hP, hD⟩
      clear ef0_5 hP hD
      refine lv_aload_n hx hb dX10_readsAmount_73 rfl (lv_at hl 0 rfl) ?_
      refine lv_aload_n hx hb dX10_readsAmount_74 rfl (lv_at hl 0 rfl) ?_
      refine va_get (D := G.1) (ci := 10) (v := .int (f0_5 9)) (C := RX10) (T := TX10) (N := 52) hx hb hts inlX10 hown hK hPD.1 0 rfl rfl 9 (by decide) (hts _ gw_554) (fun _ h9 => h9) rfl dX10_readsAmount_75 ?_
      refine lv_iconst (v := 1) hx hb dX10_readsAmount_78 (by decide) ?_
      refine lv_iadd hx hb dX10_readsAmount_79 ?_
      refine va_put (D := G.1) (ci := 10) (v := .int ((f0_5 9) + 1)) (ty := .int) (C := RX10) (T := TX10) (N := 52) hx hb hts inlX10 tyX10 tyX10_ok nmX10 hown hK hPD.1 hPD.2 hS 0 rfl rfl 9 (by decide) (hts _ gw_554) (fun _ h9 => h9) rfl (by decide +kernel) rfl rfl (Nat.le_of_ble_eq_true rfl) dX10_readsAmount_80 (fun H locs hP hD hS => ?_)
      obtain ⟨f0_6, ef0_6, h⟩ := lvl h
      have hPD : WD G DA (wX10 G h0 a0 f0_6 A0) H := by rw [ef0_6]; exact ⟨hP, hD⟩
      clear ef0_6 hP hD
      refine lv_goto (tgt := 27) hx hb dX10_readsAmount_83 (by decide) ?_
      exact hk27 f0_6 l2 h _ _ _ hPD hS (lv_sub hl [0, 1, 2] rfl)
    · have h := (if_pos cc1).symm.trans h
      refine lv_aload_n hx hb dX10_readsAmount_44 rfl (lv_at hl 0 rfl) ?_
      refine lv_iconst (v := 2) hx hb dX10_readsAmount_45 (by decide) ?_
      refine lv_aload_n hx hb dX10_readsAmount_46 rfl (lv_at hl 0 rfl) ?_
      refine va_get (D := G.1) (ci := 10) (v := .int (f0 9)) (C := RX10) (T := TX10) (N := 52) hx hb hts inlX10 hown hK hPD.1 0 rfl rfl 9 (by decide) (hts _ gw_554) (fun _ h9 => h9) rfl dX10_readsAmount_47 ?_
      obtain ⟨q_7, hq_7, h⟩ := ob2 h
      refine kVI (As := [.int 2, .int (f0 9)]) (rest := []) C0 (kt_X10_wrongAt l G h0 a0 f0 A0 2 (f0 9) hq_7) gi_V_X10_151_X10_wrongAt (n := 2) rfl (by decide +kernel) rfl ⟨rfl, rfl, Nat.le_of_ble_eq_true rfl, Nat.le_of_ble_eq_true rfl⟩ hPD hS 0 10 rfl rfl rfl [0, 1, 2, 3, 4, 5, 6, 7, 8, 9, 10, 11, 12, 13, 14, 15, 16, 17, 18, 19, 20, 21, 22, 23, 24, 25, 26, 27, 28, 29, 30, 31, 32, 33] [] [0, 1, 2, 3, 4, 5, 6, 7, 8, 9, 10, 11, 12, 13, 14, 15, 16, 17, 18, 19, 20, 21, 22, 23, 24, 25, 26, 27, 28, 29, 30, 31, 32, 33] (wN := (wX10 G h0 a0 q_7.2 A0)) rfl rfl rfl rfl rfl hl.1 (Nat.le_of_ble_eq_true rfl) dX10_readsAmount_50 (fun H locs hPD hS => ?_)
      obtain ⟨hz, h⟩ := ob h
      obtain rfl := Option.some.inj h
      exact eZ C0 hPD.1 hPD.2 hS rfl (nbool (Classical.not_not.mp hz)) dX10_readsAmount_53
set_option maxRecDepth 100000 in
set_option maxHeartbeats 4000000 in
theorem ww_f10_readsAmount_l27  (C0 : Cx cX10_readsAmount 3 (some .boolean) RX10 p s m args meth c G DA) {h0 : Nat} {a0 : Nat → Nat} {A0 : Nat → Nat → Int32} {p1 : Int32}   {res : Int32 × (Nat → Int32)}  : ∀ (n : Nat) (f0 : Nat → Int32) (l2 : Int32), f10_readsAmount_l27 A0 p1  n f0 l2 = some res → ∀ (H : Heap) (locs : List Loc) (ls : Array Slot), WD G DA (wX10 G h0 a0 f0 A0) H → va_S DA s.heap H locs → lv_has ls 3 [(0, .ref h0), (1, .int p1), (2, .int l2)] → W p l e rmX10_readsAmount s m args below meth c H locs 0 0 (MQ below (QI G DA res.1 (wX10 G h0 a0 res.2 A0)) args s 0 0 DA) (F0 m 27 ls []) := by
  intro n
  induction n with
  | zero => intro f0 l2 h; cases h
  | succ n ih => intro f0 l2 h; exact ww_f10_readsAmount_b27 C0  ih f0 l2 h
set_option maxRecDepth 100000 in
set_option maxHeartbeats 4000000 in
theorem kt_X10_readsAmount (l : Launch) (G : Gp) (h0 : Nat) (a0 : Nat → Nat) (f0 : Nat → Int32) (A0 : Nat → Nat → Int32) (p1 : Int32) : ∀ {r : Int32 × (Nat → Int32)}, f10_readsAmount f0 A0 p1 = some r → CtrI l yX10_readsAmount cX10_readsAmount 3 (some .boolean) rmX10_readsAmount G [.ref h0, .int p1] (wX10 G h0 a0 f0 A0) r.1 (wX10 G h0 a0 r.2 A0) := by
  intro res h
  refine ctrI_of (cc := cX10_readsAmount) (maxL := 3) (ret := (some .boolean)) (by decide +kernel) rfl (Nat.le_of_ble_eq_true rfl) (fun p e s m below meth c DA C0 hP hD ls hl => ?_)
  have hPD : WD G DA (wX10 G h0 a0 f0 A0) s.heap := ⟨hP, hD⟩
  have hS : va_S DA s.heap s.heap [] := va_S.rf
  have hl : lv_has ls 3 [(0, .ref h0), (1, .int p1)] := hl
  obtain ⟨hx, hb, hml, hown, hts⟩ := C0.1
  have hK := C0.2.2.2.1
  unfold f10_readsAmount at h
  refine lv_aload_n hx hb dX10_readsAmount_0 rfl (lv_at hl 0 rfl) ?_
  refine va_get (D := G.1) (ci := 10) (v := .int (f0 9)) (C := RX10) (T := TX10) (N := 52) hx hb hts inlX10 hown hK hPD.1 0 rfl rfl 9 (by decide) (hts _ gw_554) (fun _ h9 => h9) rfl dX10_readsAmount_1 ?_
  refine lv_istore_n (lv' := [(2, .int (f0 9)), (0, .ref h0), (1, .int p1)]) hx hb dX10_readsAmount_4 rfl hl (by decide) rfl (fun ls hl => ?_)
  refine lv_aload_n hx hb dX10_readsAmount_5 rfl (lv_at hl 1 rfl) ?_
  obtain ⟨q_1, hq_1, h⟩ := ob2 h
  refine kVI (As := []) (rest := []) C0 (kt_X10_isDigit l G h0 a0 f0 A0 hq_1) gi_V_X10_157_X10_isDigit (n := 0) rfl (by decide +kernel) rfl ⟨rfl, rfl, Nat.le_of_ble_eq_true rfl, Nat.le_of_ble_eq_true rfl⟩ hPD hS 0 10 rfl rfl rfl [0, 1, 2, 3, 4, 5, 6, 7, 8, 9, 10, 11, 12, 13, 14, 15, 16, 17, 18, 19, 20, 21, 22, 23, 24, 25, 26, 27, 28, 29, 30, 31, 32, 33] [] [0, 1, 2, 3, 4, 5, 6, 7, 8, 9, 10, 11, 12, 13, 14, 15, 16, 17, 18, 19, 20, 21, 22, 23, 24, 25, 26, 27, 28, 29, 30, 31, 32, 33] (wN := (wX10 G h0 a0 f0 A0)) rfl rfl rfl rfl rfl hl.1 (Nat.le_of_ble_eq_true rfl) dX10_readsAmount_6 (fun H locs hPD hS => ?_)
  refine lv_if_ne (tgt := 22) hx hb dX10_readsAmount_9 (by decide) (fun cc1 => ?_) (fun cc1 => ?_)
  · have h := (if_neg cc1).symm.trans h
    refine lv_aload_n hx hb dX10_readsAmount_22 rfl (lv_at hl 1 rfl) ?_
    refine lv_iconst (v := 0) hx hb dX10_readsAmount_23 (by decide) ?_
    refine va_put (D := G.1) (ci := 10) (v := .int 0) (ty := .int) (C := RX10) (T := TX10) (N := 52) hx hb hts inlX10 tyX10 tyX10_ok nmX10 hown hK hPD.1 hPD.2 hS 0 rfl rfl 12 (by decide) (hts _ gw_565) (fun _ h9 => h9) rfl (by decide +kernel) rfl rfl (Nat.le_of_ble_eq_true rfl) dX10_readsAmount_24 (fun H locs hP hD hS => ?_)
    obtain ⟨f0_2, ef0_2, h⟩ := lvl h
    have hPD : WD G DA (wX10 G h0 a0 f0_2 A0) H := by rw [ef0_2]; exact ⟨hP, hD⟩
    clear ef0_2 hP hD
    exact ww_f10_readsAmount_l27 C0 NF f0_2 (f0 9) h _ _ _ hPD hS (lv_sub hl [1, 2, 0] rfl)
  · have h := (if_pos cc1).symm.trans h
    refine lv_aload_n hx hb dX10_readsAmount_12 rfl (lv_at hl 1 rfl) ?_
    refine lv_iconst (v := 1) hx hb dX10_readsAmount_13 (by decide) ?_
    refine lv_aload_n hx hb dX10_readsAmount_14 rfl (lv_at hl 1 rfl) ?_
    refine va_get (D := G.1) (ci := 10) (v := .int (f0 9)) (C := RX10) (T := TX10) (N := 52) hx hb hts inlX10 hown hK hPD.1 0 rfl rfl 9 (by decide) (hts _ gw_554) (fun _ h9 => h9) rfl dX10_readsAmount_15 ?_
    obtain ⟨q_8, hq_8, h⟩ := ob2 h
    refine kVI (As := [.int 1, .int (f0 9)]) (rest := []) C0 (kt_X10_wrongAt l G h0 a0 f0 A0 1 (f0 9) hq_8) gi_V_X10_151_X10_wrongAt (n := 2) rfl (by decide +kernel) rfl ⟨rfl, rfl, Nat.le_of_ble_eq_true rfl, Nat.le_of_ble_eq_true rfl⟩ hPD hS 0 10 rfl rfl rfl [0, 1, 2, 3, 4, 5, 6, 7, 8, 9, 10, 11, 12, 13, 14, 15, 16, 17, 18, 19, 20, 21, 22, 23, 24, 25, 26, 27, 28, 29, 30, 31, 32, 33] [] [0, 1, 2, 3, 4, 5, 6, 7, 8, 9, 10, 11, 12, 13, 14, 15, 16, 17, 18, 19, 20, 21, 22, 23, 24, 25, 26, 27, 28, 29, 30, 31, 32, 33] (wN := (wX10 G h0 a0 q_8.2 A0)) rfl rfl rfl rfl rfl hl.1 (Nat.le_of_ble_eq_true rfl) dX10_readsAmount_18 (fun H locs hPD hS => ?_)
    obtain ⟨hz, h⟩ := ob h
    obtain rfl := Option.some.inj h
    exact eZ C0 hPD.1 hPD.2 hS rfl (nbool (Classical.not_not.mp hz)) dX10_readsAmount_21
abbrev rmX10_readsOther : Room := { frames := 2, cells := 0, slots := 0, locals := 43 }
set_option maxRecDepth 100000 in
set_option maxHeartbeats 4000000 in
theorem ww_f10_readsOther_b104  (C0 : Cx cX10_readsOther 4 (some .boolean) RX10 p s m args meth c G DA) {h0 : Nat} {a0 : Nat → Nat} {p1 : Int32} {p2 : Int32}   {res : Int32 × (Nat → Nat → Int32) × (Nat → Int32)}  : ∀ (A0 : Nat → Nat → Int32) (f0 : Nat → Int32) (l3 : Int32) (s0 : Int32) (s1 : Int32), f10_readsOther_b104 p1 p2  A0 f0 l3 s0 s1 = some res → ∀ (H : Heap) (locs : List Loc) (ls : Array Slot), WD G DA (wX10 G h0 a0 f0 A0) H → va_S DA s.heap H locs → lv_has ls 4 [(0, .ref h0), (1, .int p1), (2, .int p2), (3, .int l3)] → W p l e rmX10_readsOther s m args below meth c H locs 0 0 (MQ below (QI G DA res.1 (wX10 G h0 a0 res.2.2 res.2.1)) args s 0 0 DA) (F0 m 104 ls [.int s0, .int s1, .ref (a0 3)]) := by
  obtain ⟨hx, hb, hml, hown, hts⟩ := C0.1
  have hK := C0.2.2.2.1
  intro A0 f0 l3 s0 s1 h _ _ _ hPD hS hl
  unfold f10_readsOther_b104 at h
  obtain ⟨hi_5, h⟩ := ob h
  refine va_iast hx hb hK hPD.1 hPD.2 hS 4 1 rfl rfl hi_5 dX10_readsOther_104 (fun H locs hP hD hS => ?_)
  obtain ⟨A0_6, eA0_6, h⟩ := lvl h
  have hPD : WD G DA (wX10 G h0 a0 f0 A0_6) H := by rw [eA0_6]; exact ⟨hP, hD⟩
  clear eA0_6 hP hD
  refine lv_aload_n hx hb dX10_readsOther_105 rfl (lv_at hl 0 rfl) ?_
  refine va_get (D := G.1) (ci := 10) (v := .ref (a0 3)) (C := RX10) (T := TX10) (N := 52) hx hb hts inlX10 hown hK hPD.1 0 rfl rfl 3 (by decide) (hts _ gw_666) (fun _ h9 => h9) rfl dX10_readsOther_106 ?_
  refine lv_iload_n hx hb dX10_readsOther_109 rfl (lv_at hl 3 rfl) ?_
  refine lv_iload_n hx hb dX10_readsOther_110 rfl (lv_at hl 2 rfl) ?_
  refine lv_if_eq (tgt := 127) hx hb dX10_readsOther_111 (by decide) (fun cc1 => ?_) (fun cc1 => ?_)
  · have h := (if_pos cc1).symm.trans h
    refine lv_aload_n hx hb dX10_readsOther_127 rfl (lv_at hl 0 rfl) ?_
    refine va_get (D := G.1) (ci := 10) (v := .ref (a0 3)) (C := RX10) (T := TX10) (N := 52) hx hb hts inlX10 hown hK hPD.1 0 rfl rfl 3 (by decide) (hts _ gw_666) (fun _ h9 => h9) rfl dX10_readsOther_128 ?_
    refine lv_iload_n hx hb dX10_readsOther_131 rfl (lv_at hl 3 rfl) ?_
    obtain ⟨hi_7, h⟩ := ob h
    refine va_iald hx hb hK hPD.1 4 1 rfl rfl hi_7 dX10_readsOther_132 ?_
    refine lv_iconst (v := 1) hx hb dX10_readsOther_133 (by decide) ?_
    refine lv_iload_n hx hb dX10_readsOther_134 rfl (lv_at hl 1 rfl) ?_
    refine lv_ishl hx hb dX10_readsOther_135 ?_
    refine lv_iconst (v := (-1)) hx hb dX10_readsOther_136 (by decide) ?_
    refine lv_ixor hx hb dX10_readsOther_137 ?_
    refine lv_iand hx hb dX10_readsOther_138 ?_
    obtain ⟨hi_8, h⟩ := ob h
    refine va_iast hx hb hK hPD.1 hPD.2 hS 4 1 rfl rfl hi_8 dX10_readsOther_139 (fun H locs hP hD hS => ?_)
    obtain ⟨A0_9, eA0_9, h⟩ := lvl h
    have hPD : WD G DA (wX10 G h0 a0 f0 A0_9) H := by rw [eA0_9]; exact ⟨hP, hD⟩
    clear eA0_9 hP hD
    refine lv_iconst (v := 1) hx hb dX10_readsOther_140 (by decide) ?_
    obtain rfl := Option.some.inj h
    exact eZ C0 hPD.1 hPD.2 hS rfl rfl dX10_readsOther_141
  · have h := (if_neg cc1).symm.trans h
    refine lv_aload_n hx hb dX10_readsOther_114 rfl (lv_at hl 0 rfl) ?_
    refine va_get (D := G.1) (ci := 10) (v := .ref (a0 3)) (C := RX10) (T := TX10) (N := 52) hx hb hts inlX10 hown hK hPD.1 0 rfl rfl 3 (by decide) (hts _ gw_666) (fun _ h9 => h9) rfl dX10_readsOther_115 ?_
    refine lv_iload_n hx hb dX10_readsOther_118 rfl (lv_at hl 3 rfl) ?_
    obtain ⟨hi_10, h⟩ := ob h
    refine va_iald hx hb hK hPD.1 4 1 rfl rfl hi_10 dX10_readsOther_119 ?_
    refine lv_iconst (v := 1) hx hb dX10_readsOther_120 (by decide) ?_
    refine lv_iload_n hx hb dX10_readsOther_121 rfl (lv_at hl 1 rfl) ?_
    refine lv_ishl hx hb dX10_readsOther_122 ?_
    refine lv_ior hx hb dX10_readsOther_123 ?_
    refine lv_goto (tgt := 139) hx hb dX10_readsOther_124 (by decide) ?_
    obtain ⟨hi_11, h⟩ := ob h
    refine va_iast hx hb hK hPD.1 hPD.2 hS 4 1 rfl rfl hi_11 dX10_readsOther_139 (fun H locs hP hD hS => ?_)
    obtain ⟨A0_12, eA0_12, h⟩ := lvl h
    have hPD : WD G DA (wX10 G h0 a0 f0 A0_12) H := by rw [eA0_12]; exact ⟨hP, hD⟩
    clear eA0_12 hP hD
    refine lv_iconst (v := 1) hx hb dX10_readsOther_140 (by decide) ?_
    obtain rfl := Option.some.inj h
    exact eZ C0 hPD.1 hPD.2 hS rfl rfl dX10_readsOther_141
set_option maxRecDepth 100000 in
set_option maxHeartbeats 4000000 in
theorem kt_X10_readsOther (l : Launch) (G : Gp) (h0 : Nat) (a0 : Nat → Nat) (f0 : Nat → Int32) (A0 : Nat → Nat → Int32) (p1 : Int32) (p2 : Int32) : ∀ {r : Int32 × (Nat → Nat → Int32) × (Nat → Int32)}, f10_readsOther f0 A0 p1 p2 = some r → CtrI l yX10_readsOther cX10_readsOther 4 (some .boolean) rmX10_readsOther G [.ref h0, .int p1, .int p2] (wX10 G h0 a0 f0 A0) r.1 (wX10 G h0 a0 r.2.2 r.2.1) := by
  intro res h
  refine ctrI_of (cc := cX10_readsOther) (maxL := 4) (ret := (some .boolean)) (by decide +kernel) rfl (Nat.le_of_ble_eq_true rfl) (fun p e s m below meth c DA C0 hP hD ls hl => ?_)
  have hPD : WD G DA (wX10 G h0 a0 f0 A0) s.heap := ⟨hP, hD⟩
  have hS : va_S DA s.heap s.heap [] := va_S.rf
  have hl : lv_has ls 4 [(0, .ref h0), (1, .int p1), (2, .int p2)] := hl
  obtain ⟨hx, hb, hml, hown, hts⟩ := C0.1
  have hK := C0.2.2.2.1
  unfold f10_readsOther at h
  refine lv_aload_n hx hb dX10_readsOther_0 rfl (lv_at hl 0 rfl) ?_
  obtain ⟨q_1, hq_1, h⟩ := ob2 h
  refine kVI (As := []) (rest := []) C0 (kt_X10_isLetter l G h0 a0 f0 A0 hq_1) gi_V_X10_271_X10_isLetter (n := 0) rfl (by decide +kernel) rfl ⟨rfl, rfl, Nat.le_of_ble_eq_true rfl, Nat.le_of_ble_eq_true rfl⟩ hPD hS 0 10 rfl rfl rfl [0, 1, 2, 3, 4, 5, 6, 7, 8, 9, 10, 11, 12, 13, 14, 15, 16, 17, 18, 19, 20, 21, 22, 23, 24, 25, 26, 27, 28, 29, 30, 31, 32, 33] [] [0, 1, 2, 3, 4, 5, 6, 7, 8, 9, 10, 11, 12, 13, 14, 15, 16, 17, 18, 19, 20, 21, 22, 23, 24, 25, 26, 27, 28, 29, 30, 31, 32, 33] (wN := (wX10 G h0 a0 f0 A0)) rfl rfl rfl rfl rfl hl.1 (Nat.le_of_ble_eq_true rfl) dX10_readsOther_1 (fun H locs hPD hS => ?_)
  refine lv_if_ne (tgt := 17) hx hb dX10_readsOther_4 (by decide) (fun cc1 => ?_) (fun cc1 => ?_)
  · have h := (if_neg cc1).symm.trans h
    refine lv_aload_n hx hb dX10_readsOther_17 rfl (lv_at hl 0 rfl) ?_
    obtain ⟨q_2, hq_2, h⟩ := ob2 h
    refine kVI (As := []) (rest := []) C0 (kt_X10_here l G h0 a0 f0 A0 hq_2) gi_V_X10_144_X10_here (n := 0) rfl (by decide +kernel) rfl ⟨rfl, rfl, Nat.le_of_ble_eq_true rfl, Nat.le_of_ble_eq_true rfl⟩ hPD hS 0 10 rfl rfl rfl [0, 1, 2, 3, 4, 5, 6, 7, 8, 9, 10, 11, 12, 13, 14, 15, 16, 17, 18, 19, 20, 21, 22, 23, 24, 25, 26, 27, 28, 29, 30, 31, 32, 33] [] [0, 1, 2, 3, 4, 5, 6, 7, 8, 9, 10, 11, 12, 13, 14, 15, 16, 17, 18, 19, 20, 21, 22, 23, 24, 25, 26, 27, 28, 29, 30, 31, 32, 33] (wN := (wX10 G h0 a0 f0 A0)) rfl rfl rfl rfl rfl hl.1 (Nat.le_of_ble_eq_true rfl) dX10_readsOther_18 (fun H locs hPD hS => ?_)
    refine lv_bipush (v := 97) hx hb dX10_readsOther_21 (by decide) ?_
    refine lv_isub hx hb dX10_readsOther_23 ?_
    refine lv_istore_n (lv' := [(3, .int (q_2 - 97)), (0, .ref h0), (1, .int p1), (2, .int p2)]) hx hb dX10_readsOther_24 rfl hl (by decide) rfl (fun ls hl => ?_)
    refine lv_iload_n hx hb dX10_readsOther_25 rfl (lv_at hl 0 rfl) ?_
    refine lv_iload_n hx hb dX10_readsOther_26 rfl (lv_at hl 2 rfl) ?_
    refine lv_icmp_ne (tgt := 41) hx hb dX10_readsOther_27 (by decide) (fun cc1 => ?_) (fun cc1 => ?_)
    · have h := (if_neg cc1).symm.trans h
      refine lv_aload_n hx hb dX10_readsOther_41 rfl (lv_at hl 1 rfl) ?_
      refine lv_iload_n hx hb dX10_readsOther_42 rfl (lv_at hl 0 rfl) ?_
      refine kVI (As := [.int (q_2 - 97)]) (rest := []) C0 (kt_X10_isTold l G h0 a0 f0 A0 (q_2 - 97)) gi_V_X10_128_X10_isTold (n := 1) rfl (by decide +kernel) rfl ⟨rfl, rfl, Nat.le_of_ble_eq_true rfl, Nat.le_of_ble_eq_true rfl⟩ hPD hS 0 10 rfl rfl rfl [0, 1, 2, 3, 4, 5, 6, 7, 8, 9, 10, 11, 12, 13, 14, 15, 16, 17, 18, 19, 20, 21, 22, 23, 24, 25, 26, 27, 28, 29, 30, 31, 32, 33] [] [0, 1, 2, 3, 4, 5, 6, 7, 8, 9, 10, 11, 12, 13, 14, 15, 16, 17, 18, 19, 20, 21, 22, 23, 24, 25, 26, 27, 28, 29, 30, 31, 32, 33] (wN := (wX10 G h0 a0 f0 A0)) rfl rfl rfl rfl rfl hl.1 (Nat.le_of_ble_eq_true rfl) dX10_readsOther_43 (fun H locs hPD hS => ?_)
      refine lv_if_ne (tgt := 60) hx hb dX10_readsOther_46 (by decide) (fun cc1 => ?_) (fun cc1 => ?_)
      · have h := (if_neg cc1).symm.trans h
        refine lv_aload_n hx hb dX10_readsOther_60 rfl (lv_at hl 1 rfl) ?_
        refine lv_aload_n hx hb dX10_readsOther_61 rfl (lv_at hl 1 rfl) ?_
        refine va_get (D := G.1) (ci := 10) (v := .int (f0 9)) (C := RX10) (T := TX10) (N := 52) hx hb hts inlX10 hown hK hPD.1 0 rfl rfl 9 (by decide) (hts _ gw_554) (fun _ h9 => h9) rfl dX10_readsOther_62 ?_
        refine lv_iconst (v := 1) hx hb dX10_readsOther_65 (by decide) ?_
        refine lv_iadd hx hb dX10_readsOther_66 ?_
        refine va_put (D := G.1) (ci := 10) (v := .int ((f0 9) + 1)) (ty := .int) (C := RX10) (T := TX10) (N := 52) hx hb hts inlX10 tyX10 tyX10_ok nmX10 hown hK hPD.1 hPD.2 hS 0 rfl rfl 9 (by decide) (hts _ gw_554) (fun _ h9 => h9) rfl (by decide +kernel) rfl rfl (Nat.le_of_ble_eq_true rfl) dX10_readsOther_67 (fun H locs hP hD hS => ?_)
        obtain ⟨f0_3, ef0_3, h⟩ := lvl h
        have hPD : WD G DA (wX10 G h0 a0 f0_3 A0) H := by rw [ef0_3]; exact ⟨hP, hD⟩
        clear ef0_3 hP hD
        refine lv_aload_n hx hb dX10_readsOther_70 rfl (lv_at hl 1 rfl) ?_
        refine va_get (D := G.1) (ci := 10) (v := .ref (a0 3)) (C := RX10) (T := TX10) (N := 52) hx hb hts inlX10 hown hK hPD.1 0 rfl rfl 3 (by decide) (hts _ gw_666) (fun _ h9 => h9) rfl dX10_readsOther_71 ?_
        refine lv_iload_n hx hb dX10_readsOther_74 rfl (lv_at hl 2 rfl) ?_
        refine lv_iload_n hx hb dX10_readsOther_75 rfl (lv_at hl 3 rfl) ?_
        refine lv_if_eq (tgt := 92) hx hb dX10_readsOther_76 (by decide) (fun cc1 => ?_) (fun cc1 => ?_)
        · have h := (if_pos cc1).symm.trans h
          refine lv_aload_n hx hb dX10_readsOther_92 rfl (lv_at hl 1 rfl) ?_
          refine va_get (D := G.1) (ci := 10) (v := .ref (a0 3)) (C := RX10) (T := TX10) (N := 52) hx hb hts inlX10 hown hK hPD.1 0 rfl rfl 3 (by decide) (hts _ gw_666) (fun _ h9 => h9) rfl dX10_readsOther_93 ?_
          refine lv_iload_n hx hb dX10_readsOther_96 rfl (lv_at hl 2 rfl) ?_
          obtain ⟨hi_4, h⟩ := ob h
          refine va_iald hx hb hK hPD.1 4 1 rfl rfl hi_4 dX10_readsOther_97 ?_
          refine lv_iconst (v := 1) hx hb dX10_readsOther_98 (by decide) ?_
          refine lv_iload_n hx hb dX10_readsOther_99 rfl (lv_at hl 0 rfl) ?_
          refine lv_ishl hx hb dX10_readsOther_100 ?_
          refine lv_iconst (v := (-1)) hx hb dX10_readsOther_101 (by decide) ?_
          refine lv_ixor hx hb dX10_readsOther_102 ?_
          refine lv_iand hx hb dX10_readsOther_103 ?_
          exact ww_f10_readsOther_b104 C0 A0 f0_3 (q_2 - 97) ((gx (A0 3) p1) &&& ((shl 1 (q_2 - 97)) ^^^ (-1))) p1 h _ _ _ hPD hS (lv_sub hl [1, 2, 3, 0] rfl)
        · have h := (if_neg cc1).symm.trans h
          refine lv_aload_n hx hb dX10_readsOther_79 rfl (lv_at hl 1 rfl) ?_
          refine va_get (D := G.1) (ci := 10) (v := .ref (a0 3)) (C := RX10) (T := TX10) (N := 52) hx hb hts inlX10 hown hK hPD.1 0 rfl rfl 3 (by decide) (hts _ gw_666) (fun _ h9 => h9) rfl dX10_readsOther_80 ?_
          refine lv_iload_n hx hb dX10_readsOther_83 rfl (lv_at hl 2 rfl) ?_
          obtain ⟨hi_13, h⟩ := ob h
          refine va_iald hx hb hK hPD.1 4 1 rfl rfl hi_13 dX10_readsOther_84 ?_
          refine lv_iconst (v := 1) hx hb dX10_readsOther_85 (by decide) ?_
          refine lv_iload_n hx hb dX10_readsOther_86 rfl (lv_at hl 0 rfl) ?_
          refine lv_ishl hx hb dX10_readsOther_87 ?_
          refine lv_ior hx hb dX10_readsOther_88 ?_
          refine lv_goto (tgt := 104) hx hb dX10_readsOther_89 (by decide) ?_
          exact ww_f10_readsOther_b104 C0 A0 f0_3 (q_2 - 97) ((gx (A0 3) p1) ||| (shl 1 (q_2 - 97))) p1 h _ _ _ hPD hS (lv_sub hl [1, 2, 3, 0] rfl)
      · have h := (if_pos cc1).symm.trans h
        refine lv_aload_n hx hb dX10_readsOther_49 rfl (lv_at hl 1 rfl) ?_
        refine lv_bipush (v := 7) hx hb dX10_readsOther_50 (by decide) ?_
        refine lv_aload_n hx hb dX10_readsOther_52 rfl (lv_at hl 1 rfl) ?_
        refine va_get (D := G.1) (ci := 10) (v := .int (f0 9)) (C := RX10) (T := TX10) (N := 52) hx hb hts inlX10 hown hK hPD.1 0 rfl rfl 9 (by decide) (hts _ gw_554) (fun _ h9 => h9) rfl dX10_readsOther_53 ?_
        obtain ⟨q_14, hq_14, h⟩ := ob2 h
        refine kVI (As := [.int 7, .int (f0 9)]) (rest := []) C0 (kt_X10_wrongAt l G h0 a0 f0 A0 7 (f0 9) hq_14) gi_V_X10_151_X10_wrongAt (n := 2) rfl (by decide +kernel) rfl ⟨rfl, rfl, Nat.le_of_ble_eq_true rfl, Nat.le_of_ble_eq_true rfl⟩ hPD hS 0 10 rfl rfl rfl [0, 1, 2, 3, 4, 5, 6, 7, 8, 9, 10, 11, 12, 13, 14, 15, 16, 17, 18, 19, 20, 21, 22, 23, 24, 25, 26, 27, 28, 29, 30, 31, 32, 33] [] [0, 1, 2, 3, 4, 5, 6, 7, 8, 9, 10, 11, 12, 13, 14, 15, 16, 17, 18, 19, 20, 21, 22, 23, 24, 25, 26, 27, 28, 29, 30, 31, 32, 33] (wN := (wX10 G h0 a0 q_14.2 A0)) rfl rfl rfl rfl rfl hl.1 (Nat.le_of_ble_eq_true rfl) dX10_readsOther_56 (fun H locs hPD hS => ?_)
        obtain ⟨hz, h⟩ := ob h
        obtain rfl := Option.some.inj h
        exact eZ C0 hPD.1 hPD.2 hS rfl (nbool (Classical.not_not.mp hz)) dX10_readsOther_59
    · have h := (if_pos cc1).symm.trans h
      refine lv_aload_n hx hb dX10_readsOther_30 rfl (lv_at hl 1 rfl) ?_
      refine lv_bipush (v := 6) hx hb dX10_readsOther_31 (by decide) ?_
      refine lv_aload_n hx hb dX10_readsOther_33 rfl (lv_at hl 1 rfl) ?_
      refine va_get (D := G.1) (ci := 10) (v := .int (f0 9)) (C := RX10) (T := TX10) (N := 52) hx hb hts inlX10 hown hK hPD.1 0 rfl rfl 9 (by decide) (hts _ gw_554) (fun _ h9 => h9) rfl dX10_readsOther_34 ?_
      obtain ⟨q_15, hq_15, h⟩ := ob2 h
      refine kVI (As := [.int 6, .int (f0 9)]) (rest := []) C0 (kt_X10_wrongAt l G h0 a0 f0 A0 6 (f0 9) hq_15) gi_V_X10_151_X10_wrongAt (n := 2) rfl (by decide +kernel) rfl ⟨rfl, rfl, Nat.le_of_ble_eq_true rfl, Nat.le_of_ble_eq_true rfl⟩ hPD hS 0 10 rfl rfl rfl [0, 1, 2, 3, 4, 5, 6, 7, 8, 9, 10, 11, 12, 13, 14, 15, 16, 17, 18, 19, 20, 21, 22, 23, 24, 25, 26, 27, 28, 29, 30, 31, 32, 33] [] [0, 1, 2, 3, 4, 5, 6, 7, 8, 9, 10, 11, 12, 13, 14, 15, 16, 17, 18, 19, 20, 21, 22, 23, 24, 25, 26, 27, 28, 29, 30, 31, 32, 33] (wN := (wX10 G h0 a0 q_15.2 A0)) rfl rfl rfl rfl rfl hl.1 (Nat.le_of_ble_eq_true rfl) dX10_readsOther_37 (fun H locs hPD hS => ?_)
      obtain ⟨hz, h⟩ := ob h
      obtain rfl := Option.some.inj h
      exact eZ C0 hPD.1 hPD.2 hS rfl (nbool (Classical.not_not.mp hz)) dX10_readsOther_40
  · have h := (if_pos cc1).symm.trans h
    refine lv_aload_n hx hb dX10_readsOther_7 rfl (lv_at hl 0 rfl) ?_
    refine lv_iconst (v := 1) hx hb dX10_readsOther_8 (by decide) ?_
    refine lv_aload_n hx hb dX10_readsOther_9 rfl (lv_at hl 0 rfl) ?_
    refine va_get (D := G.1) (ci := 10) (v := .int (f0 9)) (C := RX10) (T := TX10) (N := 52) hx hb hts inlX10 hown hK hPD.1 0 rfl rfl 9 (by decide) (hts _ gw_554) (fun _ h9 => h9) rfl dX10_readsOther_10 ?_
    obtain ⟨q_16, hq_16, h⟩ := ob2 h
    refine kVI (As := [.int 1, .int (f0 9)]) (rest := []) C0 (kt_X10_wrongAt l G h0 a0 f0 A0 1 (f0 9) hq_16) gi_V_X10_151_X10_wrongAt (n := 2) rfl (by decide +kernel) rfl ⟨rfl, rfl, Nat.le_of_ble_eq_true rfl, Nat.le_of_ble_eq_true rfl⟩ hPD hS 0 10 rfl rfl rfl [0, 1, 2, 3, 4, 5, 6, 7, 8, 9, 10, 11, 12, 13, 14, 15, 16, 17, 18, 19, 20, 21, 22, 23, 24, 25, 26, 27, 28, 29, 30, 31, 32, 33] [] [0, 1, 2, 3, 4, 5, 6, 7, 8, 9, 10, 11, 12, 13, 14, 15, 16, 17, 18, 19, 20, 21, 22, 23, 24, 25, 26, 27, 28, 29, 30, 31, 32, 33] (wN := (wX10 G h0 a0 q_16.2 A0)) rfl rfl rfl rfl rfl hl.1 (Nat.le_of_ble_eq_true rfl) dX10_readsOther_13 (fun H locs hPD hS => ?_)
    obtain ⟨hz, h⟩ := ob h
    obtain rfl := Option.some.inj h
    exact eZ C0 hPD.1 hPD.2 hS rfl (nbool (Classical.not_not.mp hz)) dX10_readsOther_16
abbrev rmX10_readsLine : Room := { frames := 3, cells := 0, slots := 0, locals := 66 }
set_option maxRecDepth 100000 in
set_option maxHeartbeats 4000000 in
theorem ww_f10_readsLine_b150  (C0 : Cx cX10_readsLine 3 (some .boolean) RX10 p s m args meth c G DA) {h0 : Nat} {a0 : Nat → Nat}   {res : Int32 × (Nat → Nat → Int32) × (Nat → Int32)}  : ∀ (A0 : Nat → Nat → Int32) (f0 : Nat → Int32) (l1 : Int32) (l2 : Int32), f10_readsLine_b150   A0 f0 l1 l2 = some res → ∀ (H : Heap) (locs : List Loc) (ls : Array Slot), WD G DA (wX10 G h0 a0 f0 A0) H → va_S DA s.heap H locs → lv_has ls 3 [(0, .ref h0), (1, .int l1), (2, .int l2)] → W p l e rmX10_readsLine s m args below meth c H locs 0 0 (MQ below (QI G DA res.1 (wX10 G h0 a0 res.2.2 res.2.1)) args s 0 0 DA) (F0 m 150 ls []) := by
  obtain ⟨hx, hb, hml, hown, hts⟩ := C0.1
  have hK := C0.2.2.2.1
  intro A0 f0 l1 l2 h _ _ _ hPD hS hl
  unfold f10_readsLine_b150 at h
  refine lv_aload_n hx hb dX10_readsLine_150 rfl (lv_at hl 0 rfl) ?_
  refine lv_iload_n hx hb dX10_readsLine_151 rfl (lv_at hl 1 rfl) ?_
  refine lv_iload_n hx hb dX10_readsLine_152 rfl (lv_at hl 2 rfl) ?_
  refine lv_bipush (v := 38) hx hb dX10_readsLine_153 (by decide) ?_
  refine lv_icmp_ne (tgt := 162) hx hb dX10_readsLine_155 (by decide) (fun cc1 => ?_) (fun cc1 => ?_)
  · have h := (if_neg cc1).symm.trans h
    refine lv_iconst (v := 0) hx hb dX10_readsLine_162 (by decide) ?_
    obtain ⟨q_7, hq_7, h⟩ := ob2 h
    refine kVI (As := [.int l1, .int 0]) (rest := []) C0 (kt_X10_readsOther l G h0 a0 f0 A0 l1 0 hq_7) gi_V_X10_277_X10_readsOther (n := 2) rfl (by decide +kernel) rfl ⟨rfl, rfl, Nat.le_of_ble_eq_true rfl, Nat.le_of_ble_eq_true rfl⟩ hPD hS 0 10 rfl rfl rfl [0, 1, 2, 3, 4, 5, 6, 7, 8, 9, 10, 11, 12, 13, 14, 15, 16, 17, 18, 19, 20, 21, 22, 23, 24, 25, 26, 27, 28, 29, 30, 31, 32, 33] [] [0, 1, 2, 3, 4, 5, 6, 7, 8, 9, 10, 11, 12, 13, 14, 15, 16, 17, 18, 19, 20, 21, 22, 23, 24, 25, 26, 27, 28, 29, 30, 31, 32, 33] (wN := (wX10 G h0 a0 q_7.2.2 q_7.2.1)) rfl rfl rfl rfl rfl hl.1 (Nat.le_of_ble_eq_true rfl) dX10_readsLine_163 (fun H locs hPD hS => ?_)
    obtain ⟨hz, h⟩ := ob h
    obtain rfl := Option.some.inj h
    exact eZ C0 hPD.1 hPD.2 hS rfl (nbool (Classical.not_not.mp hz)) dX10_readsLine_166
  · have h := (if_pos cc1).symm.trans h
    refine lv_iconst (v := 1) hx hb dX10_readsLine_158 (by decide) ?_
    refine lv_goto (tgt := 163) hx hb dX10_readsLine_159 (by decide) ?_
    obtain ⟨q_8, hq_8, h⟩ := ob2 h
    refine kVI (As := [.int l1, .int 1]) (rest := []) C0 (kt_X10_readsOther l G h0 a0 f0 A0 l1 1 hq_8) gi_V_X10_277_X10_readsOther (n := 2) rfl (by decide +kernel) rfl ⟨rfl, rfl, Nat.le_of_ble_eq_true rfl, Nat.le_of_ble_eq_true rfl⟩ hPD hS 0 10 rfl rfl rfl [0, 1, 2, 3, 4, 5, 6, 7, 8, 9, 10, 11, 12, 13, 14, 15, 16, 17, 18, 19, 20, 21, 22, 23, 24, 25, 26, 27, 28, 29, 30, 31, 32, 33] [] [0, 1, 2, 3, 4, 5, 6, 7, 8, 9, 10, 11, 12, 13, 14, 15, 16, 17, 18, 19, 20, 21, 22, 23, 24, 25, 26, 27, 28, 29, 30, 31, 32, 33] (wN := (wX10 G h0 a0 q_8.2.2 q_8.2.1)) rfl rfl rfl rfl rfl hl.1 (Nat.le_of_ble_eq_true rfl) dX10_readsLine_163 (fun H locs hPD hS => ?_)
    obtain ⟨hz, h⟩ := ob h
    obtain rfl := Option.some.inj h
    exact eZ C0 hPD.1 hPD.2 hS rfl (nbool (Classical.not_not.mp hz)) dX10_readsLine_166
set_option maxRecDepth 100000 in
set_option maxHeartbeats 4000000 in
theorem ww_f10_readsLine_b245  (C0 : Cx cX10_readsLine 3 (some .boolean) RX10 p s m args meth c G DA) {h0 : Nat} {a0 : Nat → Nat}   {res : Int32 × (Nat → Nat → Int32) × (Nat → Int32)}  : ∀ (A0 : Nat → Nat → Int32) (f0 : Nat → Int32) (s0 : Int32) (s1 : Int32) (s2 : Int32) (s3 : Int32) (s4 : Int32), f10_readsLine_b245   A0 f0 s0 s1 s2 s3 s4 = some res → ∀ (H : Heap) (locs : List Loc) (ls : Array Slot), WD G DA (wX10 G h0 a0 f0 A0) H → va_S DA s.heap H locs → lv_has ls 3 [(0, .ref h0)] → W p l e rmX10_readsLine s m args below meth c H locs 0 0 (MQ below (QI G DA res.1 (wX10 G h0 a0 res.2.2 res.2.1)) args s 0 0 DA) (F0 m 245 ls [.int s0, .int s1, .int s2, .int s3, .int s4, .ref (a0 0)]) := by
  obtain ⟨hx, hb, hml, hown, hts⟩ := C0.1
  have hK := C0.2.2.2.1
  intro A0 f0 s0 s1 s2 s3 s4 h _ _ _ hPD hS hl
  unfold f10_readsLine_b245 at h
  refine lv_iadd hx hb dX10_readsLine_245 ?_
  refine kSI (As := [.int s2, .int (s1 + s0)]) (rest := [.int s3, .int s4, .ref (a0 0)]) C0 (kt_X10_min l G  s2 (s1 + s0)) gi_S_X10_284_X10_min (n := 2) rfl (by decide +kernel) ⟨rfl, rfl, Nat.le_of_ble_eq_true rfl, Nat.le_of_ble_eq_true rfl⟩ hPD hS [] [0, 1, 2, 3, 4, 5, 6, 7, 8, 9, 10, 11, 12, 13, 14, 15, 16, 17, 18, 19, 20, 21, 22, 23, 24, 25, 26, 27, 28, 29, 30, 31, 32, 33] [0, 1, 2, 3, 4, 5, 6, 7, 8, 9, 10, 11, 12, 13, 14, 15, 16, 17, 18, 19, 20, 21, 22, 23, 24, 25, 26, 27, 28, 29, 30, 31, 32, 33] (wN := (wX10 G h0 a0 f0 A0)) rfl rfl rfl rfl rfl hl.1 (Nat.le_of_ble_eq_true rfl) dX10_readsLine_246 (fun H locs hPD hS => ?_)
  refine kSI (As := [.int s3, .int (f10_min s2 (s1 + s0))]) (rest := [.int s4, .ref (a0 0)]) C0 (kt_X10_max l G  s3 (f10_min s2 (s1 + s0))) gi_S_X10_287_X10_max (n := 2) rfl (by decide +kernel) ⟨rfl, rfl, Nat.le_of_ble_eq_true rfl, Nat.le_of_ble_eq_true rfl⟩ hPD hS [] [0, 1, 2, 3, 4, 5, 6, 7, 8, 9, 10, 11, 12, 13, 14, 15, 16, 17, 18, 19, 20, 21, 22, 23, 24, 25, 26, 27, 28, 29, 30, 31, 32, 33] [0, 1, 2, 3, 4, 5, 6, 7, 8, 9, 10, 11, 12, 13, 14, 15, 16, 17, 18, 19, 20, 21, 22, 23, 24, 25, 26, 27, 28, 29, 30, 31, 32, 33] (wN := (wX10 G h0 a0 f0 A0)) rfl rfl rfl rfl rfl hl.1 (Nat.le_of_ble_eq_true rfl) dX10_readsLine_249 (fun H locs hPD hS => ?_)
  obtain ⟨hi_11, h⟩ := ob h
  refine va_iast hx hb hK hPD.1 hPD.2 hS 1 1 rfl rfl hi_11 dX10_readsLine_252 (fun H locs hP hD hS => ?_)
  obtain ⟨A0_12, eA0_12, h⟩ := lvl h
  have hPD : WD G DA (wX10 G h0 a0 f0 A0_12) H := by rw [eA0_12]; exact ⟨hP, hD⟩
  clear eA0_12 hP hD
  refine lv_iconst (v := 1) hx hb dX10_readsLine_253 (by decide) ?_
  obtain rfl := Option.some.inj h
  exact eZ C0 hPD.1 hPD.2 hS rfl rfl dX10_readsLine_254
set_option maxRecDepth 100000 in
set_option maxHeartbeats 4000000 in
theorem ww_f10_readsLine_b179  (C0 : Cx cX10_readsLine 3 (some .boolean) RX10 p s m args meth c G DA) {h0 : Nat} {a0 : Nat → Nat}   {res : Int32 × (Nat → Nat → Int32) × (Nat → Int32)}  : ∀ (A0 : Nat → Nat → Int32) (f0 : Nat → Int32) (l1 : Int32) (l2 : Int32) (s0 : Int32), f10_readsLine_b179   A0 f0 l1 l2 s0 = some res → ∀ (H : Heap) (locs : List Loc) (ls : Array Slot), WD G DA (wX10 G h0 a0 f0 A0) H → va_S DA s.heap H locs → lv_has ls 3 [(0, .ref h0), (1, .int l1), (2, .int l2)] → W p l e rmX10_readsLine s m args below meth c H locs 0 0 (MQ below (QI G DA res.1 (wX10 G h0 a0 res.2.2 res.2.1)) args s 0 0 DA) (F0 m 179 ls [.int s0, .ref h0]) := by
  obtain ⟨hx, hb, hml, hown, hts⟩ := C0.1
  have hK := C0.2.2.2.1
  intro A0 f0 l1 l2 s0 h _ _ _ hPD hS hl
  unfold f10_readsLine_b179 at h
  obtain ⟨q_9, hq_9, h⟩ := ob2 h
  refine kVI (As := [.int s0]) (rest := []) C0 (kt_X10_readsAmount l G h0 a0 f0 A0 s0 hq_9) gi_V_X10_281_X10_readsAmount (n := 1) rfl (by decide +kernel) rfl ⟨rfl, rfl, Nat.le_of_ble_eq_true rfl, Nat.le_of_ble_eq_true rfl⟩ hPD hS 0 10 rfl rfl rfl [0, 1, 2, 3, 4, 5, 6, 7, 8, 9, 10, 11, 12, 13, 14, 15, 16, 17, 18, 19, 20, 21, 22, 23, 24, 25, 26, 27, 28, 29, 30, 31, 32, 33] [] [0, 1, 2, 3, 4, 5, 6, 7, 8, 9, 10, 11, 12, 13, 14, 15, 16, 17, 18, 19, 20, 21, 22, 23, 24, 25, 26, 27, 28, 29, 30, 31, 32, 33] (wN := (wX10 G h0 a0 q_9.2 A0)) rfl rfl rfl rfl rfl hl.1 (Nat.le_of_ble_eq_true rfl) dX10_readsLine_179 (fun H locs hPD hS => ?_)
  refine lv_if_ne (tgt := 187) hx hb dX10_readsLine_182 (by decide) (fun cc1 => ?_) (fun cc1 => ?_)
  · have h := (if_neg cc1).symm.trans h
    refine lv_iload_n hx hb dX10_readsLine_187 rfl (lv_at hl 2 rfl) ?_
    refine lv_bipush (v := 61) hx hb dX10_readsLine_188 (by decide) ?_
    refine lv_icmp_ne (tgt := 209) hx hb dX10_readsLine_190 (by decide) (fun cc1 => ?_) (fun cc1 => ?_)
    · have h := (if_neg cc1).symm.trans h
      refine lv_aload_n hx hb dX10_readsLine_209 rfl (lv_at hl 0 rfl) ?_
      refine va_get (D := G.1) (ci := 10) (v := .ref (a0 0)) (C := RX10) (T := TX10) (N := 52) hx hb hts inlX10 hown hK hPD.1 0 rfl rfl 0 (by decide) (hts _ gw_539) (fun _ h9 => h9) rfl dX10_readsLine_210 ?_
      refine lv_iconst (v := 0) hx hb dX10_readsLine_213 (by decide) ?_
      refine lv_iload_n hx hb dX10_readsLine_214 rfl (lv_at hl 1 rfl) ?_
      refine lv_iadd hx hb dX10_readsLine_215 ?_
      refine lv_iconst (v := 0) hx hb dX10_readsLine_216 (by decide) ?_
      refine lv_bipush (v := 99) hx hb dX10_readsLine_217 (by decide) ?_
      refine lv_aload_n hx hb dX10_readsLine_219 rfl (lv_at hl 0 rfl) ?_
      refine va_get (D := G.1) (ci := 10) (v := .ref (a0 0)) (C := RX10) (T := TX10) (N := 52) hx hb hts inlX10 hown hK hPD.1 0 rfl rfl 0 (by decide) (hts _ gw_539) (fun _ h9 => h9) rfl dX10_readsLine_220 ?_
      refine lv_iconst (v := 0) hx hb dX10_readsLine_223 (by decide) ?_
      refine lv_iload_n hx hb dX10_readsLine_224 rfl (lv_at hl 1 rfl) ?_
      refine lv_iadd hx hb dX10_readsLine_225 ?_
      obtain ⟨hi_10, h⟩ := ob h
      refine va_iald hx hb hK hPD.1 1 1 rfl rfl hi_10 dX10_readsLine_226 ?_
      refine lv_iload_n hx hb dX10_readsLine_227 rfl (lv_at hl 2 rfl) ?_
      refine lv_bipush (v := 43) hx hb dX10_readsLine_228 (by decide) ?_
      refine lv_icmp_ne (tgt := 240) hx hb dX10_readsLine_230 (by decide) (fun cc1 => ?_) (fun cc1 => ?_)
      · have h := (if_neg cc1).symm.trans h
        refine lv_aload_n hx hb dX10_readsLine_240 rfl (lv_at hl 0 rfl) ?_
        refine va_get (D := G.1) (ci := 10) (v := .int (q_9.2 12)) (C := RX10) (T := TX10) (N := 52) hx hb hts inlX10 hown hK hPD.1 0 rfl rfl 12 (by decide) (hts _ gw_565) (fun _ h9 => h9) rfl dX10_readsLine_241 ?_
        refine lv_ineg hx hb dX10_readsLine_244 ?_
        exact ww_f10_readsLine_b245 C0 A0 q_9.2 (-(q_9.2 12)) (gx (A0 0) (0 + l1)) 99 0 (0 + l1) h _ _ _ hPD hS (lv_sub hl [0] rfl)
      · have h := (if_pos cc1).symm.trans h
        refine lv_aload_n hx hb dX10_readsLine_233 rfl (lv_at hl 0 rfl) ?_
        refine va_get (D := G.1) (ci := 10) (v := .int (q_9.2 12)) (C := RX10) (T := TX10) (N := 52) hx hb hts inlX10 hown hK hPD.1 0 rfl rfl 12 (by decide) (hts _ gw_565) (fun _ h9 => h9) rfl dX10_readsLine_234 ?_
        refine lv_goto (tgt := 245) hx hb dX10_readsLine_237 (by decide) ?_
        exact ww_f10_readsLine_b245 C0 A0 q_9.2 (q_9.2 12) (gx (A0 0) (0 + l1)) 99 0 (0 + l1) h _ _ _ hPD hS (lv_sub hl [0] rfl)
    · have h := (if_pos cc1).symm.trans h
      refine lv_aload_n hx hb dX10_readsLine_193 rfl (lv_at hl 0 rfl) ?_
      refine va_get (D := G.1) (ci := 10) (v := .ref (a0 0)) (C := RX10) (T := TX10) (N := 52) hx hb hts inlX10 hown hK hPD.1 0 rfl rfl 0 (by decide) (hts _ gw_539) (fun _ h9 => h9) rfl dX10_readsLine_194 ?_
      refine lv_bipush (v := 16) hx hb dX10_readsLine_197 (by decide) ?_
      refine lv_iload_n hx hb dX10_readsLine_199 rfl (lv_at hl 1 rfl) ?_
      refine lv_iadd hx hb dX10_readsLine_200 ?_
      refine lv_aload_n hx hb dX10_readsLine_201 rfl (lv_at hl 0 rfl) ?_
      refine va_get (D := G.1) (ci := 10) (v := .int (q_9.2 12)) (C := RX10) (T := TX10) (N := 52) hx hb hts inlX10 hown hK hPD.1 0 rfl rfl 12 (by decide) (hts _ gw_565) (fun _ h9 => h9) rfl dX10_readsLine_202 ?_
      obtain ⟨hi_13, h⟩ := ob h
      refine va_iast hx hb hK hPD.1 hPD.2 hS 1 1 rfl rfl hi_13 dX10_readsLine_205 (fun H locs hP hD hS => ?_)
      obtain ⟨A0_14, eA0_14, h⟩ := lvl h
      have hPD : WD G DA (wX10 G h0 a0 q_9.2 A0_14) H := by rw [eA0_14]; exact ⟨hP, hD⟩
      clear eA0_14 hP hD
      refine lv_goto (tgt := 253) hx hb dX10_readsLine_206 (by decide) ?_
      refine lv_iconst (v := 1) hx hb dX10_readsLine_253 (by decide) ?_
      obtain rfl := Option.some.inj h
      exact eZ C0 hPD.1 hPD.2 hS rfl rfl dX10_readsLine_254
  · have h := (if_pos cc1).symm.trans h
    refine lv_iconst (v := 0) hx hb dX10_readsLine_185 (by decide) ?_
    obtain rfl := Option.some.inj h
    exact eZ C0 hPD.1 hPD.2 hS rfl rfl dX10_readsLine_186
set_option maxRecDepth 100000 in
set_option maxHeartbeats 4000000 in
theorem ww_f10_readsLine_b128  (C0 : Cx cX10_readsLine 3 (some .boolean) RX10 p s m args meth c G DA) {h0 : Nat} {a0 : Nat → Nat}   {res : Int32 × (Nat → Nat → Int32) × (Nat → Int32)}  : ∀ (A0 : Nat → Nat → Int32) (f0 : Nat → Int32) (l1 : Int32) (l2 : Int32), f10_readsLine_b128   A0 f0 l1 l2 = some res → ∀ (H : Heap) (locs : List Loc) (ls : Array Slot), WD G DA (wX10 G h0 a0 f0 A0) H → va_S DA s.heap H locs → lv_has ls 3 [(0, .ref h0), (1, .int l1), (2, .int l2)] → W p l e rmX10_readsLine s m args below meth c H locs 0 0 (MQ below (QI G DA res.1 (wX10 G h0 a0 res.2.2 res.2.1)) args s 0 0 DA) (F0 m 128 ls []) := by
  obtain ⟨hx, hb, hml, hown, hts⟩ := C0.1
  have hK := C0.2.2.2.1
  intro A0 f0 l1 l2 h _ _ _ hPD hS hl
  unfold f10_readsLine_b128 at h
  refine lv_aload_n hx hb dX10_readsLine_128 rfl (lv_at hl 0 rfl) ?_
  refine lv_aload_n hx hb dX10_readsLine_129 rfl (lv_at hl 0 rfl) ?_
  refine va_get (D := G.1) (ci := 10) (v := .int (f0 9)) (C := RX10) (T := TX10) (N := 52) hx hb hts inlX10 hown hK hPD.1 0 rfl rfl 9 (by decide) (hts _ gw_554) (fun _ h9 => h9) rfl dX10_readsLine_130 ?_
  refine lv_iconst (v := 1) hx hb dX10_readsLine_133 (by decide) ?_
  refine lv_iadd hx hb dX10_readsLine_134 ?_
  refine va_put (D := G.1) (ci := 10) (v := .int ((f0 9) + 1)) (ty := .int) (C := RX10) (T := TX10) (N := 52) hx hb hts inlX10 tyX10 tyX10_ok nmX10 hown hK hPD.1 hPD.2 hS 0 rfl rfl 9 (by decide) (hts _ gw_554) (fun _ h9 => h9) rfl (by decide +kernel) rfl rfl (Nat.le_of_ble_eq_true rfl) dX10_readsLine_135 (fun H locs hP hD hS => ?_)
  obtain ⟨f0_6, ef0_6, h⟩ := lvl h
  have hPD : WD G DA (wX10 G h0 a0 f0_6 A0) H := by rw [ef0_6]; exact ⟨hP, hD⟩
  clear ef0_6 hP hD
  refine lv_iload_n hx hb dX10_readsLine_138 rfl (lv_at hl 2 rfl) ?_
  refine lv_bipush (v := 38) hx hb dX10_readsLine_139 (by decide) ?_
  refine lv_icmp_eq (tgt := 150) hx hb dX10_readsLine_141 (by decide) (fun cc1 => ?_) (fun cc1 => ?_)
  · have h := (if_pos cc1).symm.trans h
    exact ww_f10_readsLine_b150 C0 A0 f0_6 l1 l2 h _ _ _ hPD hS (lv_sub hl [0, 1, 2] rfl)
  · have h := (if_neg cc1).symm.trans h
    refine lv_iload_n hx hb dX10_readsLine_144 rfl (lv_at hl 2 rfl) ?_
    refine lv_bipush (v := 47) hx hb dX10_readsLine_145 (by decide) ?_
    refine lv_icmp_ne (tgt := 167) hx hb dX10_readsLine_147 (by decide) (fun cc1 => ?_) (fun cc1 => ?_)
    · have h := (if_neg cc1).symm.trans h
      refine lv_aload_n hx hb dX10_readsLine_167 rfl (lv_at hl 0 rfl) ?_
      refine lv_iload_n hx hb dX10_readsLine_168 rfl (lv_at hl 2 rfl) ?_
      refine lv_bipush (v := 61) hx hb dX10_readsLine_169 (by decide) ?_
      refine lv_icmp_ne (tgt := 178) hx hb dX10_readsLine_171 (by decide) (fun cc1 => ?_) (fun cc1 => ?_)
      · have h := (if_neg cc1).symm.trans h
        refine lv_iconst (v := 2) hx hb dX10_readsLine_178 (by decide) ?_
        exact ww_f10_readsLine_b179 C0 A0 f0_6 l1 l2 2 h _ _ _ hPD hS (lv_sub hl [0, 1, 2] rfl)
      · have h := (if_pos cc1).symm.trans h
        refine lv_iconst (v := 3) hx hb dX10_readsLine_174 (by decide) ?_
        refine lv_goto (tgt := 179) hx hb dX10_readsLine_175 (by decide) ?_
        exact ww_f10_readsLine_b179 C0 A0 f0_6 l1 l2 3 h _ _ _ hPD hS (lv_sub hl [0, 1, 2] rfl)
    · have h := (if_pos cc1).symm.trans h
      exact ww_f10_readsLine_b150 C0 A0 f0_6 l1 l2 h _ _ _ hPD hS (lv_sub hl [0, 1, 2] rfl)
set_option maxRecDepth 100000 in
set_option maxHeartbeats 4000000 in
theorem kt_X10_readsLine (l : Launch) (G : Gp) (h0 : Nat) (a0 : Nat → Nat) (f0 : Nat → Int32) (A0 : Nat → Nat → Int32) : ∀ {r : Int32 × (Nat → Nat → Int32) × (Nat → Int32)}, f10_readsLine f0 A0 = some r → CtrI l yX10_readsLine cX10_readsLine 3 (some .boolean) rmX10_readsLine G [.ref h0] (wX10 G h0 a0 f0 A0) r.1 (wX10 G h0 a0 r.2.2 r.2.1) := by
  intro res h
  refine ctrI_of (cc := cX10_readsLine) (maxL := 3) (ret := (some .boolean)) (by decide +kernel) rfl (Nat.le_of_ble_eq_true rfl) (fun p e s m below meth c DA C0 hP hD ls hl => ?_)
  have hPD : WD G DA (wX10 G h0 a0 f0 A0) s.heap := ⟨hP, hD⟩
  have hS : va_S DA s.heap s.heap [] := va_S.rf
  have hl : lv_has ls 3 [(0, .ref h0)] := hl
  obtain ⟨hx, hb, hml, hown, hts⟩ := C0.1
  have hK := C0.2.2.2.1
  unfold f10_readsLine at h
  refine lv_aload_n hx hb dX10_readsLine_0 rfl (lv_at hl 0 rfl) ?_
  obtain ⟨q_1, hq_1, h⟩ := ob2 h
  refine kVI (As := []) (rest := []) C0 (kt_X10_isLetter l G h0 a0 f0 A0 hq_1) gi_V_X10_271_X10_isLetter (n := 0) rfl (by decide +kernel) rfl ⟨rfl, rfl, Nat.le_of_ble_eq_true rfl, Nat.le_of_ble_eq_true rfl⟩ hPD hS 0 10 rfl rfl rfl [0, 1, 2, 3, 4, 5, 6, 7, 8, 9, 10, 11, 12, 13, 14, 15, 16, 17, 18, 19, 20, 21, 22, 23, 24, 25, 26, 27, 28, 29, 30, 31, 32, 33] [] [0, 1, 2, 3, 4, 5, 6, 7, 8, 9, 10, 11, 12, 13, 14, 15, 16, 17, 18, 19, 20, 21, 22, 23, 24, 25, 26, 27, 28, 29, 30, 31, 32, 33] (wN := (wX10 G h0 a0 f0 A0)) rfl rfl rfl rfl rfl hl.1 (Nat.le_of_ble_eq_true rfl) dX10_readsLine_1 (fun H locs hPD hS => ?_)
  refine lv_if_ne (tgt := 17) hx hb dX10_readsLine_4 (by decide) (fun cc1 => ?_) (fun cc1 => ?_)
  · have h := (if_neg cc1).symm.trans h
    refine lv_aload_n hx hb dX10_readsLine_17 rfl (lv_at hl 0 rfl) ?_
    refine va_get (D := G.1) (ci := 10) (v := .int (f0 39)) (C := RX10) (T := TX10) (N := 52) hx hb hts inlX10 hown hK hPD.1 0 rfl rfl 39 (by decide) (hts _ gw_704) (fun _ h9 => h9) rfl dX10_readsLine_18 ?_
    refine lv_bipush (v := 20) hx hb dX10_readsLine_21 (by decide) ?_
    refine lv_icmp_ne (tgt := 36) hx hb dX10_readsLine_23 (by decide) (fun cc1 => ?_) (fun cc1 => ?_)
    · have h := (if_neg cc1).symm.trans h
      refine lv_aload_n hx hb dX10_readsLine_36 rfl (lv_at hl 0 rfl) ?_
      refine lv_aload_n hx hb dX10_readsLine_37 rfl (lv_at hl 0 rfl) ?_
      refine va_get (D := G.1) (ci := 10) (v := .int (f0 39)) (C := RX10) (T := TX10) (N := 52) hx hb hts inlX10 hown hK hPD.1 0 rfl rfl 39 (by decide) (hts _ gw_704) (fun _ h9 => h9) rfl dX10_readsLine_38 ?_
      refine lv_iconst (v := 1) hx hb dX10_readsLine_41 (by decide) ?_
      refine lv_iadd hx hb dX10_readsLine_42 ?_
      refine va_put (D := G.1) (ci := 10) (v := .int ((f0 39) + 1)) (ty := .int) (C := RX10) (T := TX10) (N := 52) hx hb hts inlX10 tyX10 tyX10_ok nmX10 hown hK hPD.1 hPD.2 hS 0 rfl rfl 39 (by decide) (hts _ gw_704) (fun _ h9 => h9) rfl (by decide +kernel) rfl rfl (Nat.le_of_ble_eq_true rfl) dX10_readsLine_43 (fun H locs hP hD hS => ?_)
      obtain ⟨f0_2, ef0_2, h⟩ := lvl h
      have hPD : WD G DA (wX10 G h0 a0 f0_2 A0) H := by rw [ef0_2]; exact ⟨hP, hD⟩
      clear ef0_2 hP hD
      refine lv_aload_n hx hb dX10_readsLine_46 rfl (lv_at hl 0 rfl) ?_
      obtain ⟨q_3, hq_3, h⟩ := ob2 h
      refine kVI (As := []) (rest := []) C0 (kt_X10_here l G h0 a0 f0_2 A0 hq_3) gi_V_X10_144_X10_here (n := 0) rfl (by decide +kernel) rfl ⟨rfl, rfl, Nat.le_of_ble_eq_true rfl, Nat.le_of_ble_eq_true rfl⟩ hPD hS 0 10 rfl rfl rfl [0, 1, 2, 3, 4, 5, 6, 7, 8, 9, 10, 11, 12, 13, 14, 15, 16, 17, 18, 19, 20, 21, 22, 23, 24, 25, 26, 27, 28, 29, 30, 31, 32, 33] [] [0, 1, 2, 3, 4, 5, 6, 7, 8, 9, 10, 11, 12, 13, 14, 15, 16, 17, 18, 19, 20, 21, 22, 23, 24, 25, 26, 27, 28, 29, 30, 31, 32, 33] (wN := (wX10 G h0 a0 f0_2 A0)) rfl rfl rfl rfl rfl hl.1 (Nat.le_of_ble_eq_true rfl) dX10_readsLine_47 (fun H locs hPD hS => ?_)
      refine lv_bipush (v := 97) hx hb dX10_readsLine_50 (by decide) ?_
      refine lv_isub hx hb dX10_readsLine_52 ?_
      refine lv_istore_n (lv' := [(1, .int (q_3 - 97)), (0, .ref h0)]) hx hb dX10_readsLine_53 rfl hl (by decide) rfl (fun ls hl => ?_)
      refine lv_aload_n hx hb dX10_readsLine_54 rfl (lv_at hl 1 rfl) ?_
      refine lv_iload_n hx hb dX10_readsLine_55 rfl (lv_at hl 0 rfl) ?_
      refine kVI (As := [.int (q_3 - 97)]) (rest := []) C0 (kt_X10_isTold l G h0 a0 f0_2 A0 (q_3 - 97)) gi_V_X10_128_X10_isTold (n := 1) rfl (by decide +kernel) rfl ⟨rfl, rfl, Nat.le_of_ble_eq_true rfl, Nat.le_of_ble_eq_true rfl⟩ hPD hS 0 10 rfl rfl rfl [0, 1, 2, 3, 4, 5, 6, 7, 8, 9, 10, 11, 12, 13, 14, 15, 16, 17, 18, 19, 20, 21, 22, 23, 24, 25, 26, 27, 28, 29, 30, 31, 32, 33] [] [0, 1, 2, 3, 4, 5, 6, 7, 8, 9, 10, 11, 12, 13, 14, 15, 16, 17, 18, 19, 20, 21, 22, 23, 24, 25, 26, 27, 28, 29, 30, 31, 32, 33] (wN := (wX10 G h0 a0 f0_2 A0)) rfl rfl rfl rfl rfl hl.1 (Nat.le_of_ble_eq_true rfl) dX10_readsLine_56 (fun H locs hPD hS => ?_)
      refine lv_if_ne (tgt := 73) hx hb dX10_readsLine_59 (by decide) (fun cc1 => ?_) (fun cc1 => ?_)
      · have h := (if_neg cc1).symm.trans h
        refine lv_aload_n hx hb dX10_readsLine_73 rfl (lv_at hl 1 rfl) ?_
        refine lv_aload_n hx hb dX10_readsLine_74 rfl (lv_at hl 1 rfl) ?_
        refine va_get (D := G.1) (ci := 10) (v := .int (f0_2 9)) (C := RX10) (T := TX10) (N := 52) hx hb hts inlX10 hown hK hPD.1 0 rfl rfl 9 (by decide) (hts _ gw_554) (fun _ h9 => h9) rfl dX10_readsLine_75 ?_
        refine lv_iconst (v := 1) hx hb dX10_readsLine_78 (by decide) ?_
        refine lv_iadd hx hb dX10_readsLine_79 ?_
        refine va_put (D := G.1) (ci := 10) (v := .int ((f0_2 9) + 1)) (ty := .int) (C := RX10) (T := TX10) (N := 52) hx hb hts inlX10 tyX10 tyX10_ok nmX10 hown hK hPD.1 hPD.2 hS 0 rfl rfl 9 (by decide) (hts _ gw_554) (fun _ h9 => h9) rfl (by decide +kernel) rfl rfl (Nat.le_of_ble_eq_true rfl) dX10_readsLine_80 (fun H locs hP hD hS => ?_)
        obtain ⟨f0_4, ef0_4, h⟩ := lvl h
        have hPD : WD G DA (wX10 G h0 a0 f0_4 A0) H := by rw [ef0_4]; exact ⟨hP, hD⟩
        clear ef0_4 hP hD
        refine lv_aload_n hx hb dX10_readsLine_83 rfl (lv_at hl 1 rfl) ?_
        obtain ⟨q_5, hq_5, h⟩ := ob2 h
        refine kVI (As := []) (rest := []) C0 (kt_X10_here l G h0 a0 f0_4 A0 hq_5) gi_V_X10_144_X10_here (n := 0) rfl (by decide +kernel) rfl ⟨rfl, rfl, Nat.le_of_ble_eq_true rfl, Nat.le_of_ble_eq_true rfl⟩ hPD hS 0 10 rfl rfl rfl [0, 1, 2, 3, 4, 5, 6, 7, 8, 9, 10, 11, 12, 13, 14, 15, 16, 17, 18, 19, 20, 21, 22, 23, 24, 25, 26, 27, 28, 29, 30, 31, 32, 33] [] [0, 1, 2, 3, 4, 5, 6, 7, 8, 9, 10, 11, 12, 13, 14, 15, 16, 17, 18, 19, 20, 21, 22, 23, 24, 25, 26, 27, 28, 29, 30, 31, 32, 33] (wN := (wX10 G h0 a0 f0_4 A0)) rfl rfl rfl rfl rfl hl.1 (Nat.le_of_ble_eq_true rfl) dX10_readsLine_84 (fun H locs hPD hS => ?_)
        refine lv_istore_n (lv' := [(2, .int q_5), (1, .int (q_3 - 97)), (0, .ref h0)]) hx hb dX10_readsLine_87 rfl hl (by decide) rfl (fun ls hl => ?_)
        refine lv_iload_n hx hb dX10_readsLine_88 rfl (lv_at hl 0 rfl) ?_
        refine lv_bipush (v := 43) hx hb dX10_readsLine_89 (by decide) ?_
        refine lv_icmp_eq (tgt := 128) hx hb dX10_readsLine_91 (by decide) (fun cc1 => ?_) (fun cc1 => ?_)
        · have h := (if_pos cc1).symm.trans h
          exact ww_f10_readsLine_b128 C0 A0 f0_4 (q_3 - 97) q_5 h _ _ _ hPD hS (lv_sub hl [2, 1, 0] rfl)
        · have h := (if_neg cc1).symm.trans h
          refine lv_iload_n hx hb dX10_readsLine_94 rfl (lv_at hl 0 rfl) ?_
          refine lv_bipush (v := 45) hx hb dX10_readsLine_95 (by decide) ?_
          refine lv_icmp_eq (tgt := 128) hx hb dX10_readsLine_97 (by decide) (fun cc1 => ?_) (fun cc1 => ?_)
          · have h := (if_pos cc1).symm.trans h
            exact ww_f10_readsLine_b128 C0 A0 f0_4 (q_3 - 97) q_5 h _ _ _ hPD hS (lv_sub hl [2, 1, 0] rfl)
          · have h := (if_neg cc1).symm.trans h
            refine lv_iload_n hx hb dX10_readsLine_100 rfl (lv_at hl 0 rfl) ?_
            refine lv_bipush (v := 61) hx hb dX10_readsLine_101 (by decide) ?_
            refine lv_icmp_eq (tgt := 128) hx hb dX10_readsLine_103 (by decide) (fun cc1 => ?_) (fun cc1 => ?_)
            · have h := (if_pos cc1).symm.trans h
              exact ww_f10_readsLine_b128 C0 A0 f0_4 (q_3 - 97) q_5 h _ _ _ hPD hS (lv_sub hl [2, 1, 0] rfl)
            · have h := (if_neg cc1).symm.trans h
              refine lv_iload_n hx hb dX10_readsLine_106 rfl (lv_at hl 0 rfl) ?_
              refine lv_bipush (v := 38) hx hb dX10_readsLine_107 (by decide) ?_
              refine lv_icmp_eq (tgt := 128) hx hb dX10_readsLine_109 (by decide) (fun cc1 => ?_) (fun cc1 => ?_)
              · have h := (if_pos cc1).symm.trans h
                exact ww_f10_readsLine_b128 C0 A0 f0_4 (q_3 - 97) q_5 h _ _ _ hPD hS (lv_sub hl [2, 1, 0] rfl)
              · have h := (if_neg cc1).symm.trans h
                refine lv_iload_n hx hb dX10_readsLine_112 rfl (lv_at hl 0 rfl) ?_
                refine lv_bipush (v := 47) hx hb dX10_readsLine_113 (by decide) ?_
                refine lv_icmp_eq (tgt := 128) hx hb dX10_readsLine_115 (by decide) (fun cc1 => ?_) (fun cc1 => ?_)
                · have h := (if_pos cc1).symm.trans h
                  exact ww_f10_readsLine_b128 C0 A0 f0_4 (q_3 - 97) q_5 h _ _ _ hPD hS (lv_sub hl [2, 1, 0] rfl)
                · have h := (if_neg cc1).symm.trans h
                  refine lv_aload_n hx hb dX10_readsLine_118 rfl (lv_at hl 2 rfl) ?_
                  refine lv_iconst (v := 1) hx hb dX10_readsLine_119 (by decide) ?_
                  refine lv_aload_n hx hb dX10_readsLine_120 rfl (lv_at hl 2 rfl) ?_
                  refine va_get (D := G.1) (ci := 10) (v := .int (f0_4 9)) (C := RX10) (T := TX10) (N := 52) hx hb hts inlX10 hown hK hPD.1 0 rfl rfl 9 (by decide) (hts _ gw_554) (fun _ h9 => h9) rfl dX10_readsLine_121 ?_
                  obtain ⟨q_15, hq_15, h⟩ := ob2 h
                  refine kVI (As := [.int 1, .int (f0_4 9)]) (rest := []) C0 (kt_X10_wrongAt l G h0 a0 f0_4 A0 1 (f0_4 9) hq_15) gi_V_X10_151_X10_wrongAt (n := 2) rfl (by decide +kernel) rfl ⟨rfl, rfl, Nat.le_of_ble_eq_true rfl, Nat.le_of_ble_eq_true rfl⟩ hPD hS 0 10 rfl rfl rfl [0, 1, 2, 3, 4, 5, 6, 7, 8, 9, 10, 11, 12, 13, 14, 15, 16, 17, 18, 19, 20, 21, 22, 23, 24, 25, 26, 27, 28, 29, 30, 31, 32, 33] [] [0, 1, 2, 3, 4, 5, 6, 7, 8, 9, 10, 11, 12, 13, 14, 15, 16, 17, 18, 19, 20, 21, 22, 23, 24, 25, 26, 27, 28, 29, 30, 31, 32, 33] (wN := (wX10 G h0 a0 q_15.2 A0)) rfl rfl rfl rfl rfl hl.1 (Nat.le_of_ble_eq_true rfl) dX10_readsLine_124 (fun H locs hPD hS => ?_)
                  obtain ⟨hz, h⟩ := ob h
                  obtain rfl := Option.some.inj h
                  exact eZ C0 hPD.1 hPD.2 hS rfl (nbool (Classical.not_not.mp hz)) dX10_readsLine_127
      · have h := (if_pos cc1).symm.trans h
        refine lv_aload_n hx hb dX10_readsLine_62 rfl (lv_at hl 1 rfl) ?_
        refine lv_bipush (v := 7) hx hb dX10_readsLine_63 (by decide) ?_
        refine lv_aload_n hx hb dX10_readsLine_65 rfl (lv_at hl 1 rfl) ?_
        refine va_get (D := G.1) (ci := 10) (v := .int (f0_2 9)) (C := RX10) (T := TX10) (N := 52) hx hb hts inlX10 hown hK hPD.1 0 rfl rfl 9 (by decide) (hts _ gw_554) (fun _ h9 => h9) rfl dX10_readsLine_66 ?_
        obtain ⟨q_16, hq_16, h⟩ := ob2 h
        refine kVI (As := [.int 7, .int (f0_2 9)]) (rest := []) C0 (kt_X10_wrongAt l G h0 a0 f0_2 A0 7 (f0_2 9) hq_16) gi_V_X10_151_X10_wrongAt (n := 2) rfl (by decide +kernel) rfl ⟨rfl, rfl, Nat.le_of_ble_eq_true rfl, Nat.le_of_ble_eq_true rfl⟩ hPD hS 0 10 rfl rfl rfl [0, 1, 2, 3, 4, 5, 6, 7, 8, 9, 10, 11, 12, 13, 14, 15, 16, 17, 18, 19, 20, 21, 22, 23, 24, 25, 26, 27, 28, 29, 30, 31, 32, 33] [] [0, 1, 2, 3, 4, 5, 6, 7, 8, 9, 10, 11, 12, 13, 14, 15, 16, 17, 18, 19, 20, 21, 22, 23, 24, 25, 26, 27, 28, 29, 30, 31, 32, 33] (wN := (wX10 G h0 a0 q_16.2 A0)) rfl rfl rfl rfl rfl hl.1 (Nat.le_of_ble_eq_true rfl) dX10_readsLine_69 (fun H locs hPD hS => ?_)
        obtain ⟨hz, h⟩ := ob h
        obtain rfl := Option.some.inj h
        exact eZ C0 hPD.1 hPD.2 hS rfl (nbool (Classical.not_not.mp hz)) dX10_readsLine_72
    · have h := (if_pos cc1).symm.trans h
      refine lv_aload_n hx hb dX10_readsLine_26 rfl (lv_at hl 0 rfl) ?_
      refine lv_iconst (v := 4) hx hb dX10_readsLine_27 (by decide) ?_
      refine lv_aload_n hx hb dX10_readsLine_28 rfl (lv_at hl 0 rfl) ?_
      refine va_get (D := G.1) (ci := 10) (v := .int (f0 9)) (C := RX10) (T := TX10) (N := 52) hx hb hts inlX10 hown hK hPD.1 0 rfl rfl 9 (by decide) (hts _ gw_554) (fun _ h9 => h9) rfl dX10_readsLine_29 ?_
      obtain ⟨q_17, hq_17, h⟩ := ob2 h
      refine kVI (As := [.int 4, .int (f0 9)]) (rest := []) C0 (kt_X10_wrongAt l G h0 a0 f0 A0 4 (f0 9) hq_17) gi_V_X10_151_X10_wrongAt (n := 2) rfl (by decide +kernel) rfl ⟨rfl, rfl, Nat.le_of_ble_eq_true rfl, Nat.le_of_ble_eq_true rfl⟩ hPD hS 0 10 rfl rfl rfl [0, 1, 2, 3, 4, 5, 6, 7, 8, 9, 10, 11, 12, 13, 14, 15, 16, 17, 18, 19, 20, 21, 22, 23, 24, 25, 26, 27, 28, 29, 30, 31, 32, 33] [] [0, 1, 2, 3, 4, 5, 6, 7, 8, 9, 10, 11, 12, 13, 14, 15, 16, 17, 18, 19, 20, 21, 22, 23, 24, 25, 26, 27, 28, 29, 30, 31, 32, 33] (wN := (wX10 G h0 a0 q_17.2 A0)) rfl rfl rfl rfl rfl hl.1 (Nat.le_of_ble_eq_true rfl) dX10_readsLine_32 (fun H locs hPD hS => ?_)
      obtain ⟨hz, h⟩ := ob h
      obtain rfl := Option.some.inj h
      exact eZ C0 hPD.1 hPD.2 hS rfl (nbool (Classical.not_not.mp hz)) dX10_readsLine_35
  · have h := (if_pos cc1).symm.trans h
    refine lv_aload_n hx hb dX10_readsLine_7 rfl (lv_at hl 0 rfl) ?_
    refine lv_iconst (v := 1) hx hb dX10_readsLine_8 (by decide) ?_
    refine lv_aload_n hx hb dX10_readsLine_9 rfl (lv_at hl 0 rfl) ?_
    refine va_get (D := G.1) (ci := 10) (v := .int (f0 9)) (C := RX10) (T := TX10) (N := 52) hx hb hts inlX10 hown hK hPD.1 0 rfl rfl 9 (by decide) (hts _ gw_554) (fun _ h9 => h9) rfl dX10_readsLine_10 ?_
    obtain ⟨q_18, hq_18, h⟩ := ob2 h
    refine kVI (As := [.int 1, .int (f0 9)]) (rest := []) C0 (kt_X10_wrongAt l G h0 a0 f0 A0 1 (f0 9) hq_18) gi_V_X10_151_X10_wrongAt (n := 2) rfl (by decide +kernel) rfl ⟨rfl, rfl, Nat.le_of_ble_eq_true rfl, Nat.le_of_ble_eq_true rfl⟩ hPD hS 0 10 rfl rfl rfl [0, 1, 2, 3, 4, 5, 6, 7, 8, 9, 10, 11, 12, 13, 14, 15, 16, 17, 18, 19, 20, 21, 22, 23, 24, 25, 26, 27, 28, 29, 30, 31, 32, 33] [] [0, 1, 2, 3, 4, 5, 6, 7, 8, 9, 10, 11, 12, 13, 14, 15, 16, 17, 18, 19, 20, 21, 22, 23, 24, 25, 26, 27, 28, 29, 30, 31, 32, 33] (wN := (wX10 G h0 a0 q_18.2 A0)) rfl rfl rfl rfl rfl hl.1 (Nat.le_of_ble_eq_true rfl) dX10_readsLine_13 (fun H locs hPD hS => ?_)
    obtain ⟨hz, h⟩ := ob h
    obtain rfl := Option.some.inj h
    exact eZ C0 hPD.1 hPD.2 hS rfl (nbool (Classical.not_not.mp hz)) dX10_readsLine_16
abbrev rmX10_pleas : Room := { frames := 4, cells := 0, slots := 0, locals := 88 }
set_option maxRecDepth 100000 in
set_option maxHeartbeats 4000000 in
theorem ww_f10_pleas_b139  (C0 : Cx cX10_pleas 4 (some .int) RX10 p s m args meth c G DA) {h0 : Nat} {a0 : Nat → Nat} {p1 : Int32}  {k139 : (Nat → Nat → Int32) → (Nat → Int32) → Int32 → Option (Int32 × (Nat → Nat → Int32) × (Nat → Int32))} {res : Int32 × (Nat → Nat → Int32) × (Nat → Int32)}  (hk139 : ∀ (A0 : Nat → Nat → Int32) (f0 : Nat → Int32) (l3 : Int32), k139 A0 f0 l3 = some res → ∀ (H : Heap) (locs : List Loc) (ls : Array Slot), WD G DA (wX10 G h0 a0 f0 A0) H → va_S DA s.heap H locs → lv_has ls 4 [(0, .ref h0), (1, .int p1), (3, .int l3)] → W p l e rmX10_pleas s m args below meth c H locs 0 0 (MQ below (QI G DA res.1 (wX10 G h0 a0 res.2.2 res.2.1)) args s 0 0 DA) (F0 m 139 ls [])) : ∀ (A0 : Nat → Nat → Int32) (f0 : Nat → Int32) (l3 : Int32), f10_pleas_b139 p1  k139 A0 f0 l3 = some res → ∀ (H : Heap) (locs : List Loc) (ls : Array Slot), WD G DA (wX10 G h0 a0 f0 A0) H → va_S DA s.heap H locs → lv_has ls 4 [(0, .ref h0), (1, .int p1), (3, .int l3)] → W p l e rmX10_pleas s m args below meth c H locs 0 0 (MQ below (QI G DA res.1 (wX10 G h0 a0 res.2.2 res.2.1)) args s 0 0 DA) (F0 m 139 ls []) := by
  obtain ⟨hx, hb, hml, hown, hts⟩ := C0.1
  have hK := C0.2.2.2.1
  intro A0 f0 l3 h _ _ _ hPD hS hl
  unfold f10_pleas_b139 at h
  refine lv_iload_n hx hb dX10_pleas_139 rfl (lv_at hl 2 rfl) ?_
  refine lv_bipush (v := 16) hx hb dX10_pleas_140 (by decide) ?_
  refine lv_icmp_ge (tgt := 163) hx hb dX10_pleas_142 (by decide) (fun cc1 => ?_) (fun cc1 => ?_)
  · have h := (if_pos cc1).symm.trans h
    refine lv_aload_n hx hb dX10_pleas_163 rfl (lv_at hl 0 rfl) ?_
    refine va_get (D := G.1) (ci := 10) (v := .int (f0 11)) (C := RX10) (T := TX10) (N := 52) hx hb hts inlX10 hown hK hPD.1 0 rfl rfl 11 (by decide) (hts _ gw_560) (fun _ h9 => h9) rfl dX10_pleas_164 ?_
    obtain rfl := Option.some.inj h
    exact eI C0 hPD.1 hPD.2 hS rfl dX10_pleas_167
  · have h := (if_neg cc1).symm.trans h
    refine lv_aload_n hx hb dX10_pleas_145 rfl (lv_at hl 0 rfl) ?_
    refine va_get (D := G.1) (ci := 10) (v := .ref (a0 3)) (C := RX10) (T := TX10) (N := 52) hx hb hts inlX10 hown hK hPD.1 0 rfl rfl 3 (by decide) (hts _ gw_666) (fun _ h9 => h9) rfl dX10_pleas_146 ?_
    refine lv_iload_n hx hb dX10_pleas_149 rfl (lv_at hl 2 rfl) ?_
    refine lv_aload_n hx hb dX10_pleas_150 rfl (lv_at hl 0 rfl) ?_
    refine va_get (D := G.1) (ci := 10) (v := .ref (a0 40)) (C := RX10) (T := TX10) (N := 52) hx hb hts inlX10 hown hK hPD.1 0 rfl rfl 40 (by decide) (hts _ gw_727) (fun _ h9 => h9) rfl dX10_pleas_151 ?_
    refine lv_iload_n hx hb dX10_pleas_154 rfl (lv_at hl 2 rfl) ?_
    obtain ⟨hi_8, h⟩ := ob h
    refine va_iald hx hb hK hPD.1 25 1 rfl rfl hi_8 dX10_pleas_155 ?_
    obtain ⟨hi_9, h⟩ := ob h
    refine va_iast hx hb hK hPD.1 hPD.2 hS 4 1 rfl rfl hi_9 dX10_pleas_156 (fun H locs hP hD hS => ?_)
    obtain ⟨A0_10, eA0_10, h⟩ := lvl h
    have hPD : WD G DA (wX10 G h0 a0 f0 A0_10) H := by rw [eA0_10]; exact ⟨hP, hD⟩
    clear eA0_10 hP hD
    refine lv_iinc (v := l3 + 1) (lv' := [(3, .int (l3 + 1)), (0, .ref h0), (1, .int p1)]) hx hb dX10_pleas_157 hl (k := 2) rfl rfl (by decide) rfl (fun ls hl => ?_)
    refine lv_goto (tgt := 139) hx hb dX10_pleas_160 (by decide) ?_
    exact hk139 A0_10 f0 (l3 + 1) h _ _ _ hPD hS (lv_sub hl [1, 2, 0] rfl)
set_option maxRecDepth 100000 in
set_option maxHeartbeats 4000000 in
theorem ww_f10_pleas_l139  (C0 : Cx cX10_pleas 4 (some .int) RX10 p s m args meth c G DA) {h0 : Nat} {a0 : Nat → Nat} {p1 : Int32}   {res : Int32 × (Nat → Nat → Int32) × (Nat → Int32)}  : ∀ (n : Nat) (A0 : Nat → Nat → Int32) (f0 : Nat → Int32) (l3 : Int32), f10_pleas_l139 p1  n A0 f0 l3 = some res → ∀ (H : Heap) (locs : List Loc) (ls : Array Slot), WD G DA (wX10 G h0 a0 f0 A0) H → va_S DA s.heap H locs → lv_has ls 4 [(0, .ref h0), (1, .int p1), (3, .int l3)] → W p l e rmX10_pleas s m args below meth c H locs 0 0 (MQ below (QI G DA res.1 (wX10 G h0 a0 res.2.2 res.2.1)) args s 0 0 DA) (F0 m 139 ls []) := by
  intro n
  induction n with
  | zero => intro A0 f0 l3 h; cases h
  | succ n ih => intro A0 f0 l3 h; exact ww_f10_pleas_b139 C0  ih A0 f0 l3 h
set_option maxRecDepth 100000 in
set_option maxHeartbeats 4000000 in
theorem ww_f10_pleas_b112  (C0 : Cx cX10_pleas 4 (some .int) RX10 p s m args meth c G DA) {h0 : Nat} {a0 : Nat → Nat} {p1 : Int32}   {res : Int32 × (Nat → Nat → Int32) × (Nat → Int32)}  : ∀ (A0 : Nat → Nat → Int32) (f0 : Nat → Int32) (l2 : Int32), f10_pleas_b112 p1  A0 f0 l2 = some res → ∀ (H : Heap) (locs : List Loc) (ls : Array Slot), WD G DA (wX10 G h0 a0 f0 A0) H → va_S DA s.heap H locs → lv_has ls 4 [(0, .ref h0), (1, .int p1), (2, .int l2)] → W p l e rmX10_pleas s m args below meth c H locs 0 0 (MQ below (QI G DA res.1 (wX10 G h0 a0 res.2.2 res.2.1)) args s 0 0 DA) (F0 m 112 ls []) := by
  obtain ⟨hx, hb, hml, hown, hts⟩ := C0.1
  have hK := C0.2.2.2.1
  intro A0 f0 l2 h _ _ _ hPD hS hl
  unfold f10_pleas_b112 at h
  refine lv_aload_n hx hb dX10_pleas_112 rfl (lv_at hl 0 rfl) ?_
  refine lv_iconst (v := 0) hx hb dX10_pleas_113 (by decide) ?_
  refine va_put (D := G.1) (ci := 10) (v := .int 0) (ty := .int) (C := RX10) (T := TX10) (N := 52) hx hb hts inlX10 tyX10 tyX10_ok nmX10 hown hK hPD.1 hPD.2 hS 0 rfl rfl 8 (by decide) (hts _ gw_549) (fun _ h9 => h9) rfl (by decide +kernel) rfl rfl (Nat.le_of_ble_eq_true rfl) dX10_pleas_114 (fun H locs hP hD hS => ?_)
  obtain ⟨f0_5, ef0_5, h⟩ := lvl h
  have hPD : WD G DA (wX10 G h0 a0 f0_5 A0) H := by rw [ef0_5]; exact ⟨hP, hD⟩
  clear ef0_5 hP hD
  refine lv_iload_n hx hb dX10_pleas_117 rfl (lv_at hl 2 rfl) ?_
  refine lv_if_eq (tgt := 126) hx hb dX10_pleas_118 (by decide) (fun cc1 => ?_) (fun cc1 => ?_)
  · have h := (if_pos cc1).symm.trans h
    refine lv_aload_n hx hb dX10_pleas_126 rfl (lv_at hl 0 rfl) ?_
    refine va_get (D := G.1) (ci := 10) (v := .ref (a0 1)) (C := RX10) (T := TX10) (N := 52) hx hb hts inlX10 hown hK hPD.1 0 rfl rfl 1 (by decide) (hts _ gw_719) (fun _ h9 => h9) rfl dX10_pleas_127 ?_
    refine lv_aload_n hx hb dX10_pleas_130 rfl (lv_at hl 0 rfl) ?_
    refine va_get (D := G.1) (ci := 10) (v := .ref (a0 0)) (C := RX10) (T := TX10) (N := 52) hx hb hts inlX10 hown hK hPD.1 0 rfl rfl 0 (by decide) (hts _ gw_539) (fun _ h9 => h9) rfl dX10_pleas_131 ?_
    obtain ⟨q_6, hq_6, h⟩ := ob2 h
    refine kSV (As := [.ref (a0 1), .ref (a0 0)]) (rest := []) C0 (kt_X10_copies l G (a0 1) (a0 0) 76 (A0 1) 76 (A0 0) (by decide) (by decide) hq_6) gi_S_X10_290_X10_copies (n := 2) rfl (by decide +kernel) ⟨rfl, rfl, Nat.le_of_ble_eq_true rfl, Nat.le_of_ble_eq_true rfl⟩ hPD hS [2, 1] [0, 3, 4, 5, 6, 7, 8, 9, 10, 11, 12, 13, 14, 15, 16, 17, 18, 19, 20, 21, 22, 23, 24, 25, 26, 27, 28, 29, 30, 31, 32, 33] [0, 33, 32, 1, 2, 3, 4, 5, 6, 7, 8, 9, 10, 11, 12, 13, 14, 15, 16, 17, 18, 19, 20, 21, 22, 23, 24, 25, 26, 27, 28, 29, 30, 31] (wN := (wX10 G h0 a0 f0_5 (updA A0 0 q_6))) rfl rfl rfl rfl rfl hl.1 (Nat.le_of_ble_eq_true rfl) dX10_pleas_134 (fun H locs hPD hS => ?_)
    obtain ⟨A0_7, eA0_7, h⟩ := lvl h
    have hPD : WD G DA (wX10 G h0 a0 f0_5 A0_7) H := by rw [eA0_7]; exact hPD
    clear eA0_7
    refine lv_iconst (v := 0) hx hb dX10_pleas_137 (by decide) ?_
    refine lv_istore_n (lv' := [(3, .int 0), (0, .ref h0), (1, .int p1), (2, .int l2)]) hx hb dX10_pleas_138 rfl hl (by decide) rfl (fun ls hl => ?_)
    exact ww_f10_pleas_l139 C0 NF A0_7 f0_5 0 h _ _ _ hPD hS (lv_sub hl [1, 2, 0] rfl)
  · have h := (if_neg cc1).symm.trans h
    refine lv_aload_n hx hb dX10_pleas_121 rfl (lv_at hl 0 rfl) ?_
    refine va_get (D := G.1) (ci := 10) (v := .int (f0_5 39)) (C := RX10) (T := TX10) (N := 52) hx hb hts inlX10 hown hK hPD.1 0 rfl rfl 39 (by decide) (hts _ gw_704) (fun _ h9 => h9) rfl dX10_pleas_122 ?_
    obtain rfl := Option.some.inj h
    exact eI C0 hPD.1 hPD.2 hS rfl dX10_pleas_125
set_option maxRecDepth 100000 in
set_option maxHeartbeats 4000000 in
theorem ww_f10_pleas_b72  (C0 : Cx cX10_pleas 4 (some .int) RX10 p s m args meth c G DA) {h0 : Nat} {a0 : Nat → Nat} {p1 : Int32}  {k72 : (Nat → Nat → Int32) → (Nat → Int32) → Int32 → Option (Int32 × (Nat → Nat → Int32) × (Nat → Int32))} {res : Int32 × (Nat → Nat → Int32) × (Nat → Int32)}  (hk72 : ∀ (A0 : Nat → Nat → Int32) (f0 : Nat → Int32) (l2 : Int32), k72 A0 f0 l2 = some res → ∀ (H : Heap) (locs : List Loc) (ls : Array Slot), WD G DA (wX10 G h0 a0 f0 A0) H → va_S DA s.heap H locs → lv_has ls 4 [(0, .ref h0), (1, .int p1), (2, .int l2)] → W p l e rmX10_pleas s m args below meth c H locs 0 0 (MQ below (QI G DA res.1 (wX10 G h0 a0 res.2.2 res.2.1)) args s 0 0 DA) (F0 m 72 ls [])) : ∀ (A0 : Nat → Nat → Int32) (f0 : Nat → Int32) (l2 : Int32), f10_pleas_b72 p1  k72 A0 f0 l2 = some res → ∀ (H : Heap) (locs : List Loc) (ls : Array Slot), WD G DA (wX10 G h0 a0 f0 A0) H → va_S DA s.heap H locs → lv_has ls 4 [(0, .ref h0), (1, .int p1), (2, .int l2)] → W p l e rmX10_pleas s m args below meth c H locs 0 0 (MQ below (QI G DA res.1 (wX10 G h0 a0 res.2.2 res.2.1)) args s 0 0 DA) (F0 m 72 ls []) := by
  obtain ⟨hx, hb, hml, hown, hts⟩ := C0.1
  have hK := C0.2.2.2.1
  intro A0 f0 l2 h _ _ _ hPD hS hl
  unfold f10_pleas_b72 at h
  refine lv_iload_n hx hb dX10_pleas_72 rfl (lv_at hl 2 rfl) ?_
  refine lv_if_eq (tgt := 112) hx hb dX10_pleas_73 (by decide) (fun cc1 => ?_) (fun cc1 => ?_)
  · have h := (if_pos cc1).symm.trans h
    exact ww_f10_pleas_b112 C0 A0 f0 l2 h _ _ _ hPD hS (lv_sub hl [0, 1, 2] rfl)
  · have h := (if_neg cc1).symm.trans h
    refine lv_aload_n hx hb dX10_pleas_76 rfl (lv_at hl 0 rfl) ?_
    refine va_get (D := G.1) (ci := 10) (v := .int (f0 9)) (C := RX10) (T := TX10) (N := 52) hx hb hts inlX10 hown hK hPD.1 0 rfl rfl 9 (by decide) (hts _ gw_554) (fun _ h9 => h9) rfl dX10_pleas_77 ?_
    refine lv_aload_n hx hb dX10_pleas_80 rfl (lv_at hl 0 rfl) ?_
    refine va_get (D := G.1) (ci := 10) (v := .int (f0 10)) (C := RX10) (T := TX10) (N := 52) hx hb hts inlX10 hown hK hPD.1 0 rfl rfl 10 (by decide) (hts _ gw_555) (fun _ h9 => h9) rfl dX10_pleas_81 ?_
    refine lv_icmp_ge (tgt := 112) hx hb dX10_pleas_84 (by decide) (fun cc1 => ?_) (fun cc1 => ?_)
    · have h := (if_pos cc1).symm.trans h
      exact ww_f10_pleas_b112 C0 A0 f0 l2 h _ _ _ hPD hS (lv_sub hl [0, 1, 2] rfl)
    · have h := (if_neg cc1).symm.trans h
      refine lv_aload_n hx hb dX10_pleas_87 rfl (lv_at hl 0 rfl) ?_
      refine lv_bipush (v := 59) hx hb dX10_pleas_88 (by decide) ?_
      obtain ⟨q_11, hq_11, h⟩ := ob2 h
      refine kVI (As := [.int 59]) (rest := []) C0 (kt_X10_takes l G h0 a0 f0 A0 59 hq_11) gi_V_X10_227_X10_takes (n := 1) rfl (by decide +kernel) rfl ⟨rfl, rfl, Nat.le_of_ble_eq_true rfl, Nat.le_of_ble_eq_true rfl⟩ hPD hS 0 10 rfl rfl rfl [0, 1, 2, 3, 4, 5, 6, 7, 8, 9, 10, 11, 12, 13, 14, 15, 16, 17, 18, 19, 20, 21, 22, 23, 24, 25, 26, 27, 28, 29, 30, 31, 32, 33] [] [0, 1, 2, 3, 4, 5, 6, 7, 8, 9, 10, 11, 12, 13, 14, 15, 16, 17, 18, 19, 20, 21, 22, 23, 24, 25, 26, 27, 28, 29, 30, 31, 32, 33] (wN := (wX10 G h0 a0 q_11.2 A0)) rfl rfl rfl rfl rfl hl.1 (Nat.le_of_ble_eq_true rfl) dX10_pleas_90 (fun H locs hPD hS => ?_)
      refine lv_if_eq (tgt := 107) hx hb dX10_pleas_93 (by decide) (fun cc1 => ?_) (fun cc1 => ?_)
      · have h := (if_pos cc1).symm.trans h
        refine lv_iconst (v := 0) hx hb dX10_pleas_107 (by decide) ?_
        refine lv_istore_n (lv' := [(2, .int 0), (0, .ref h0), (1, .int p1)]) hx hb dX10_pleas_108 rfl hl (by decide) rfl (fun ls hl => ?_)
        refine lv_goto (tgt := 72) hx hb dX10_pleas_109 (by decide) ?_
        exact hk72 A0 q_11.2 0 h _ _ _ hPD hS (lv_sub hl [1, 2, 0] rfl)
      · have h := (if_neg cc1).symm.trans h
        refine lv_aload_n hx hb dX10_pleas_96 rfl (lv_at hl 0 rfl) ?_
        obtain ⟨q_12, hq_12, h⟩ := ob2 h
        refine kVI (As := []) (rest := []) C0 (kt_X10_readsLine l G h0 a0 q_11.2 A0 hq_12) gi_V_X10_294_X10_readsLine (n := 0) rfl (by decide +kernel) rfl ⟨rfl, rfl, Nat.le_of_ble_eq_true rfl, Nat.le_of_ble_eq_true rfl⟩ hPD hS 0 10 rfl rfl rfl [0, 1, 2, 3, 4, 5, 6, 7, 8, 9, 10, 11, 12, 13, 14, 15, 16, 17, 18, 19, 20, 21, 22, 23, 24, 25, 26, 27, 28, 29, 30, 31, 32, 33] [] [0, 1, 2, 3, 4, 5, 6, 7, 8, 9, 10, 11, 12, 13, 14, 15, 16, 17, 18, 19, 20, 21, 22, 23, 24, 25, 26, 27, 28, 29, 30, 31, 32, 33] (wN := (wX10 G h0 a0 q_12.2.2 q_12.2.1)) rfl rfl rfl rfl rfl hl.1 (Nat.le_of_ble_eq_true rfl) dX10_pleas_97 (fun H locs hPD hS => ?_)
        refine lv_if_eq (tgt := 107) hx hb dX10_pleas_100 (by decide) (fun cc1 => ?_) (fun cc1 => ?_)
        · have h := (if_pos cc1).symm.trans h
          refine lv_iconst (v := 0) hx hb dX10_pleas_107 (by decide) ?_
          refine lv_istore_n (lv' := [(2, .int 0), (0, .ref h0), (1, .int p1)]) hx hb dX10_pleas_108 rfl hl (by decide) rfl (fun ls hl => ?_)
          refine lv_goto (tgt := 72) hx hb dX10_pleas_109 (by decide) ?_
          exact hk72 q_12.2.1 q_12.2.2 0 h _ _ _ hPD hS (lv_sub hl [1, 2, 0] rfl)
        · have h := (if_neg cc1).symm.trans h
          refine lv_iconst (v := 1) hx hb dX10_pleas_103 (by decide) ?_
          refine lv_goto (tgt := 108) hx hb dX10_pleas_104 (by decide) ?_
          refine lv_istore_n (lv' := [(2, .int 1), (0, .ref h0), (1, .int p1)]) hx hb dX10_pleas_108 rfl hl (by decide) rfl (fun ls hl => ?_)
          refine lv_goto (tgt := 72) hx hb dX10_pleas_109 (by decide) ?_
          exact hk72 q_12.2.1 q_12.2.2 1 h _ _ _ hPD hS (lv_sub hl [1, 2, 0] rfl)
set_option maxRecDepth 100000 in
set_option maxHeartbeats 4000000 in
theorem ww_f10_pleas_l72  (C0 : Cx cX10_pleas 4 (some .int) RX10 p s m args meth c G DA) {h0 : Nat} {a0 : Nat → Nat} {p1 : Int32}   {res : Int32 × (Nat → Nat → Int32) × (Nat → Int32)}  : ∀ (n : Nat) (A0 : Nat → Nat → Int32) (f0 : Nat → Int32) (l2 : Int32), f10_pleas_l72 p1  n A0 f0 l2 = some res → ∀ (H : Heap) (locs : List Loc) (ls : Array Slot), WD G DA (wX10 G h0 a0 f0 A0) H → va_S DA s.heap H locs → lv_has ls 4 [(0, .ref h0), (1, .int p1), (2, .int l2)] → W p l e rmX10_pleas s m args below meth c H locs 0 0 (MQ below (QI G DA res.1 (wX10 G h0 a0 res.2.2 res.2.1)) args s 0 0 DA) (F0 m 72 ls []) := by
  intro n
  induction n with
  | zero => intro A0 f0 l2 h; cases h
  | succ n ih => intro A0 f0 l2 h; exact ww_f10_pleas_b72 C0  ih A0 f0 l2 h
set_option maxRecDepth 100000 in
set_option maxHeartbeats 4000000 in
theorem ww_f10_pleas_b43  (C0 : Cx cX10_pleas 4 (some .int) RX10 p s m args meth c G DA) {h0 : Nat} {a0 : Nat → Nat} {p1 : Int32}  {k43 : (Nat → Nat → Int32) → (Nat → Int32) → Int32 → Option (Int32 × (Nat → Nat → Int32) × (Nat → Int32))} {res : Int32 × (Nat → Nat → Int32) × (Nat → Int32)}  (hk43 : ∀ (A0 : Nat → Nat → Int32) (f0 : Nat → Int32) (l2 : Int32), k43 A0 f0 l2 = some res → ∀ (H : Heap) (locs : List Loc) (ls : Array Slot), WD G DA (wX10 G h0 a0 f0 A0) H → va_S DA s.heap H locs → lv_has ls 4 [(0, .ref h0), (1, .int p1), (2, .int l2)] → W p l e rmX10_pleas s m args below meth c H locs 0 0 (MQ below (QI G DA res.1 (wX10 G h0 a0 res.2.2 res.2.1)) args s 0 0 DA) (F0 m 43 ls [])) : ∀ (A0 : Nat → Nat → Int32) (f0 : Nat → Int32) (l2 : Int32), f10_pleas_b43 p1  k43 A0 f0 l2 = some res → ∀ (H : Heap) (locs : List Loc) (ls : Array Slot), WD G DA (wX10 G h0 a0 f0 A0) H → va_S DA s.heap H locs → lv_has ls 4 [(0, .ref h0), (1, .int p1), (2, .int l2)] → W p l e rmX10_pleas s m args below meth c H locs 0 0 (MQ below (QI G DA res.1 (wX10 G h0 a0 res.2.2 res.2.1)) args s 0 0 DA) (F0 m 43 ls []) := by
  obtain ⟨hx, hb, hml, hown, hts⟩ := C0.1
  have hK := C0.2.2.2.1
  intro A0 f0 l2 h _ _ _ hPD hS hl
  unfold f10_pleas_b43 at h
  refine lv_iload_n hx hb dX10_pleas_43 rfl (lv_at hl 2 rfl) ?_
  refine lv_bipush (v := 16) hx hb dX10_pleas_44 (by decide) ?_
  refine lv_icmp_ge (tgt := 67) hx hb dX10_pleas_46 (by decide) (fun cc1 => ?_) (fun cc1 => ?_)
  · have h := (if_pos cc1).symm.trans h
    refine lv_aload_n hx hb dX10_pleas_67 rfl (lv_at hl 0 rfl) ?_
    obtain ⟨q_4, hq_4, h⟩ := ob2 h
    refine kVI (As := []) (rest := []) C0 (kt_X10_readsLine l G h0 a0 f0 A0 hq_4) gi_V_X10_294_X10_readsLine (n := 0) rfl (by decide +kernel) rfl ⟨rfl, rfl, Nat.le_of_ble_eq_true rfl, Nat.le_of_ble_eq_true rfl⟩ hPD hS 0 10 rfl rfl rfl [0, 1, 2, 3, 4, 5, 6, 7, 8, 9, 10, 11, 12, 13, 14, 15, 16, 17, 18, 19, 20, 21, 22, 23, 24, 25, 26, 27, 28, 29, 30, 31, 32, 33] [] [0, 1, 2, 3, 4, 5, 6, 7, 8, 9, 10, 11, 12, 13, 14, 15, 16, 17, 18, 19, 20, 21, 22, 23, 24, 25, 26, 27, 28, 29, 30, 31, 32, 33] (wN := (wX10 G h0 a0 q_4.2.2 q_4.2.1)) rfl rfl rfl rfl rfl hl.1 (Nat.le_of_ble_eq_true rfl) dX10_pleas_68 (fun H locs hPD hS => ?_)
    refine lv_istore_n (lv' := [(2, .int q_4.1), (0, .ref h0), (1, .int p1)]) hx hb dX10_pleas_71 rfl hl (by decide) rfl (fun ls hl => ?_)
    exact ww_f10_pleas_l72 C0 NF q_4.2.1 q_4.2.2 q_4.1 h _ _ _ hPD hS (lv_sub hl [1, 2, 0] rfl)
  · have h := (if_neg cc1).symm.trans h
    refine lv_aload_n hx hb dX10_pleas_49 rfl (lv_at hl 0 rfl) ?_
    refine va_get (D := G.1) (ci := 10) (v := .ref (a0 40)) (C := RX10) (T := TX10) (N := 52) hx hb hts inlX10 hown hK hPD.1 0 rfl rfl 40 (by decide) (hts _ gw_727) (fun _ h9 => h9) rfl dX10_pleas_50 ?_
    refine lv_iload_n hx hb dX10_pleas_53 rfl (lv_at hl 2 rfl) ?_
    refine lv_aload_n hx hb dX10_pleas_54 rfl (lv_at hl 0 rfl) ?_
    refine va_get (D := G.1) (ci := 10) (v := .ref (a0 3)) (C := RX10) (T := TX10) (N := 52) hx hb hts inlX10 hown hK hPD.1 0 rfl rfl 3 (by decide) (hts _ gw_666) (fun _ h9 => h9) rfl dX10_pleas_55 ?_
    refine lv_iload_n hx hb dX10_pleas_58 rfl (lv_at hl 2 rfl) ?_
    obtain ⟨hi_13, h⟩ := ob h
    refine va_iald hx hb hK hPD.1 4 1 rfl rfl hi_13 dX10_pleas_59 ?_
    obtain ⟨hi_14, h⟩ := ob h
    refine va_iast hx hb hK hPD.1 hPD.2 hS 25 1 rfl rfl hi_14 dX10_pleas_60 (fun H locs hP hD hS => ?_)
    obtain ⟨A0_15, eA0_15, h⟩ := lvl h
    have hPD : WD G DA (wX10 G h0 a0 f0 A0_15) H := by rw [eA0_15]; exact ⟨hP, hD⟩
    clear eA0_15 hP hD
    refine lv_iinc (v := l2 + 1) (lv' := [(2, .int (l2 + 1)), (0, .ref h0), (1, .int p1)]) hx hb dX10_pleas_61 hl (k := 2) rfl rfl (by decide) rfl (fun ls hl => ?_)
    refine lv_goto (tgt := 43) hx hb dX10_pleas_64 (by decide) ?_
    exact hk43 A0_15 f0 (l2 + 1) h _ _ _ hPD hS (lv_sub hl [1, 2, 0] rfl)
set_option maxRecDepth 100000 in
set_option maxHeartbeats 4000000 in
theorem ww_f10_pleas_l43  (C0 : Cx cX10_pleas 4 (some .int) RX10 p s m args meth c G DA) {h0 : Nat} {a0 : Nat → Nat} {p1 : Int32}   {res : Int32 × (Nat → Nat → Int32) × (Nat → Int32)}  : ∀ (n : Nat) (A0 : Nat → Nat → Int32) (f0 : Nat → Int32) (l2 : Int32), f10_pleas_l43 p1  n A0 f0 l2 = some res → ∀ (H : Heap) (locs : List Loc) (ls : Array Slot), WD G DA (wX10 G h0 a0 f0 A0) H → va_S DA s.heap H locs → lv_has ls 4 [(0, .ref h0), (1, .int p1), (2, .int l2)] → W p l e rmX10_pleas s m args below meth c H locs 0 0 (MQ below (QI G DA res.1 (wX10 G h0 a0 res.2.2 res.2.1)) args s 0 0 DA) (F0 m 43 ls []) := by
  intro n
  induction n with
  | zero => intro A0 f0 l2 h; cases h
  | succ n ih => intro A0 f0 l2 h; exact ww_f10_pleas_b43 C0  ih A0 f0 l2 h
set_option maxRecDepth 100000 in
set_option maxHeartbeats 4000000 in
theorem kt_X10_pleas (l : Launch) (G : Gp) (h0 : Nat) (a0 : Nat → Nat) (f0 : Nat → Int32) (A0 : Nat → Nat → Int32) (p1 : Int32) : ∀ {r : Int32 × (Nat → Nat → Int32) × (Nat → Int32)}, f10_pleas f0 A0 p1 = some r → CtrI l yX10_pleas cX10_pleas 4 (some .int) rmX10_pleas G [.ref h0, .int p1] (wX10 G h0 a0 f0 A0) r.1 (wX10 G h0 a0 r.2.2 r.2.1) := by
  intro res h
  refine ctrI_of (cc := cX10_pleas) (maxL := 4) (ret := (some .int)) (by decide +kernel) rfl (Nat.le_of_ble_eq_true rfl) (fun p e s m below meth c DA C0 hP hD ls hl => ?_)
  have hPD : WD G DA (wX10 G h0 a0 f0 A0) s.heap := ⟨hP, hD⟩
  have hS : va_S DA s.heap s.heap [] := va_S.rf
  have hl : lv_has ls 4 [(0, .ref h0), (1, .int p1)] := hl
  obtain ⟨hx, hb, hml, hown, hts⟩ := C0.1
  have hK := C0.2.2.2.1
  unfold f10_pleas at h
  refine lv_iload_n hx hb dX10_pleas_0 rfl (lv_at hl 1 rfl) ?_
  refine lv_iconst (v := 1) hx hb dX10_pleas_1 (by decide) ?_
  refine lv_bipush (v := 120) hx hb dX10_pleas_2 (by decide) ?_
  refine kSI (As := [.int p1, .int 1, .int 120]) (rest := []) C0 (kt_X10_in l G  p1 1 120) gi_S_X10_112_X10_in (n := 3) rfl (by decide +kernel) ⟨rfl, rfl, Nat.le_of_ble_eq_true rfl, Nat.le_of_ble_eq_true rfl⟩ hPD hS [] [0, 1, 2, 3, 4, 5, 6, 7, 8, 9, 10, 11, 12, 13, 14, 15, 16, 17, 18, 19, 20, 21, 22, 23, 24, 25, 26, 27, 28, 29, 30, 31, 32, 33] [0, 1, 2, 3, 4, 5, 6, 7, 8, 9, 10, 11, 12, 13, 14, 15, 16, 17, 18, 19, 20, 21, 22, 23, 24, 25, 26, 27, 28, 29, 30, 31, 32, 33] (wN := (wX10 G h0 a0 f0 A0)) rfl rfl rfl rfl rfl hl.1 (Nat.le_of_ble_eq_true rfl) dX10_pleas_4 (fun H locs hPD hS => ?_)
  refine lv_if_eq (tgt := 18) hx hb dX10_pleas_7 (by decide) (fun cc1 => ?_) (fun cc1 => ?_)
  · have h := (if_pos cc1).symm.trans h
    refine lv_iconst (v := (-1)) hx hb dX10_pleas_18 (by decide) ?_
    obtain rfl := Option.some.inj h
    exact eI C0 hPD.1 hPD.2 hS rfl dX10_pleas_19
  · have h := (if_neg cc1).symm.trans h
    refine lv_iload_n hx hb dX10_pleas_10 rfl (lv_at hl 1 rfl) ?_
    refine lv_aload_n hx hb dX10_pleas_11 rfl (lv_at hl 0 rfl) ?_
    refine va_get (D := G.1) (ci := 10) (v := .int (f0 8)) (C := RX10) (T := TX10) (N := 52) hx hb hts inlX10 hown hK hPD.1 0 rfl rfl 8 (by decide) (hts _ gw_549) (fun _ h9 => h9) rfl dX10_pleas_12 ?_
    refine lv_icmp_le (tgt := 20) hx hb dX10_pleas_15 (by decide) (fun cc1 => ?_) (fun cc1 => ?_)
    · have h := (if_pos cc1).symm.trans h
      refine lv_aload_n hx hb dX10_pleas_20 rfl (lv_at hl 0 rfl) ?_
      refine lv_iload_n hx hb dX10_pleas_21 rfl (lv_at hl 1 rfl) ?_
      refine kVV (As := [.int p1]) (rest := []) C0 (kt_X10_beginsText l G h0 a0 f0 A0 p1) gi_V_X10_221_X10_beginsText (n := 1) rfl (by decide +kernel) rfl ⟨rfl, rfl, Nat.le_of_ble_eq_true rfl, Nat.le_of_ble_eq_true rfl⟩ hPD hS 0 10 rfl rfl rfl [0, 1, 2, 3, 4, 5, 6, 7, 8, 9, 10, 11, 12, 13, 14, 15, 16, 17, 18, 19, 20, 21, 22, 23, 24, 25, 26, 27, 28, 29, 30, 31, 32, 33] [] [0, 1, 2, 3, 4, 5, 6, 7, 8, 9, 10, 11, 12, 13, 14, 15, 16, 17, 18, 19, 20, 21, 22, 23, 24, 25, 26, 27, 28, 29, 30, 31, 32, 33] (wN := (wX10 G h0 a0 (f10_beginsText f0 A0 p1) A0)) rfl rfl rfl rfl rfl hl.1 (Nat.le_of_ble_eq_true rfl) dX10_pleas_22 (fun H locs hPD hS => ?_)
      refine lv_aload_n hx hb dX10_pleas_25 rfl (lv_at hl 0 rfl) ?_
      refine lv_iconst (v := 0) hx hb dX10_pleas_26 (by decide) ?_
      refine va_put (D := G.1) (ci := 10) (v := .int 0) (ty := .int) (C := RX10) (T := TX10) (N := 52) hx hb hts inlX10 tyX10 tyX10_ok nmX10 hown hK hPD.1 hPD.2 hS 0 rfl rfl 39 (by decide) (hts _ gw_704) (fun _ h9 => h9) rfl (by decide +kernel) rfl rfl (Nat.le_of_ble_eq_true rfl) dX10_pleas_27 (fun H locs hP hD hS => ?_)
      obtain ⟨f0_1, ef0_1, h⟩ := lvl h
      have hPD : WD G DA (wX10 G h0 a0 f0_1 A0) H := by rw [ef0_1]; exact ⟨hP, hD⟩
      clear ef0_1 hP hD
      refine lv_aload_n hx hb dX10_pleas_30 rfl (lv_at hl 0 rfl) ?_
      refine va_get (D := G.1) (ci := 10) (v := .ref (a0 0)) (C := RX10) (T := TX10) (N := 52) hx hb hts inlX10 hown hK hPD.1 0 rfl rfl 0 (by decide) (hts _ gw_539) (fun _ h9 => h9) rfl dX10_pleas_31 ?_
      refine lv_aload_n hx hb dX10_pleas_34 rfl (lv_at hl 0 rfl) ?_
      refine va_get (D := G.1) (ci := 10) (v := .ref (a0 1)) (C := RX10) (T := TX10) (N := 52) hx hb hts inlX10 hown hK hPD.1 0 rfl rfl 1 (by decide) (hts _ gw_719) (fun _ h9 => h9) rfl dX10_pleas_35 ?_
      obtain ⟨q_2, hq_2, h⟩ := ob2 h
      refine kSV (As := [.ref (a0 0), .ref (a0 1)]) (rest := []) C0 (kt_X10_copies l G (a0 0) (a0 1) 76 (A0 0) 76 (A0 1) (by decide) (by decide) hq_2) gi_S_X10_290_X10_copies (n := 2) rfl (by decide +kernel) ⟨rfl, rfl, Nat.le_of_ble_eq_true rfl, Nat.le_of_ble_eq_true rfl⟩ hPD hS [1, 2] [0, 3, 4, 5, 6, 7, 8, 9, 10, 11, 12, 13, 14, 15, 16, 17, 18, 19, 20, 21, 22, 23, 24, 25, 26, 27, 28, 29, 30, 31, 32, 33] [0, 32, 33, 1, 2, 3, 4, 5, 6, 7, 8, 9, 10, 11, 12, 13, 14, 15, 16, 17, 18, 19, 20, 21, 22, 23, 24, 25, 26, 27, 28, 29, 30, 31] (wN := (wX10 G h0 a0 f0_1 (updA A0 1 q_2))) rfl rfl rfl rfl rfl hl.1 (Nat.le_of_ble_eq_true rfl) dX10_pleas_38 (fun H locs hPD hS => ?_)
      obtain ⟨A0_3, eA0_3, h⟩ := lvl h
      have hPD : WD G DA (wX10 G h0 a0 f0_1 A0_3) H := by rw [eA0_3]; exact hPD
      clear eA0_3
      refine lv_iconst (v := 0) hx hb dX10_pleas_41 (by decide) ?_
      refine lv_istore_n (lv' := [(2, .int 0), (0, .ref h0), (1, .int p1)]) hx hb dX10_pleas_42 rfl hl (by decide) rfl (fun ls hl => ?_)
      exact ww_f10_pleas_l43 C0 NF A0_3 f0_1 0 h _ _ _ hPD hS (lv_sub hl [1, 2, 0] rfl)
    · have h := (if_neg cc1).symm.trans h
      refine lv_iconst (v := (-1)) hx hb dX10_pleas_18 (by decide) ?_
      obtain rfl := Option.some.inj h
      exact eI C0 hPD.1 hPD.2 hS rfl dX10_pleas_19
abbrev rmX10_walks : Room := { frames := 2, cells := 0, slots := 0, locals := 43 }
set_option maxRecDepth 100000 in
set_option maxHeartbeats 4000000 in
theorem kt_X10_walks (l : Launch) (G : Gp) (h0 : Nat) (a0 : Nat → Nat) (f0 : Nat → Int32) (A0 : Nat → Nat → Int32) (p1 : Int32) : ∀ {r : (Nat → Nat → Int32)}, f10_walks f0 A0 p1 = some r → CtrV l yX10_walks cX10_walks 3 none rmX10_walks G [.ref h0, .int p1] (wX10 G h0 a0 f0 A0) (wX10 G h0 a0 f0 r) := by
  intro res h
  refine ctrV_of (cc := cX10_walks) (maxL := 3) (ret := none) (by decide +kernel) rfl (Nat.le_of_ble_eq_true rfl) (fun p e s m below meth c DA C0 hP hD ls hl => ?_)
  have hPD : WD G DA (wX10 G h0 a0 f0 A0) s.heap := ⟨hP, hD⟩
  have hS : va_S DA s.heap s.heap [] := va_S.rf
  have hl : lv_has ls 3 [(0, .ref h0), (1, .int p1)] := hl
  obtain ⟨hx, hb, hml, hown, hts⟩ := C0.1
  have hK := C0.2.2.2.1
  unfold f10_walks at h
  refine lv_aload_n hx hb dX10_walks_0 rfl (lv_at hl 0 rfl) ?_
  refine lv_iload_n hx hb dX10_walks_1 rfl (lv_at hl 1 rfl) ?_
  obtain ⟨q_1, hq_1, h⟩ := ob2 h
  refine kVI (As := [.int p1]) (rest := []) C0 (kt_X10_isMan l G h0 a0 f0 A0 p1 hq_1) gi_V_X10_124_X10_isMan (n := 1) rfl (by decide +kernel) rfl ⟨rfl, rfl, Nat.le_of_ble_eq_true rfl, Nat.le_of_ble_eq_true rfl⟩ hPD hS 0 10 rfl rfl rfl [0, 1, 2, 3, 4, 5, 6, 7, 8, 9, 10, 11, 12, 13, 14, 15, 16, 17, 18, 19, 20, 21, 22, 23, 24, 25, 26, 27, 28, 29, 30, 31, 32, 33] [] [0, 1, 2, 3, 4, 5, 6, 7, 8, 9, 10, 11, 12, 13, 14, 15, 16, 17, 18, 19, 20, 21, 22, 23, 24, 25, 26, 27, 28, 29, 30, 31, 32, 33] (wN := (wX10 G h0 a0 f0 A0)) rfl rfl rfl rfl rfl hl.1 (Nat.le_of_ble_eq_true rfl) dX10_walks_2 (fun H locs hPD hS => ?_)
  refine lv_if_eq (tgt := 17) hx hb dX10_walks_5 (by decide) (fun cc1 => ?_) (fun cc1 => ?_)
  · have h := (if_pos cc1).symm.trans h
    obtain rfl := Option.some.inj h
    exact eV C0 hPD.1 hPD.2 hS dX10_walks_17
  · have h := (if_neg cc1).symm.trans h
    refine lv_aload_n hx hb dX10_walks_8 rfl (lv_at hl 0 rfl) ?_
    refine va_get (D := G.1) (ci := 10) (v := .ref (a0 4)) (C := RX10) (T := TX10) (N := 52) hx hb hts inlX10 hown hK hPD.1 0 rfl rfl 4 (by decide) (hts _ gw_698) (fun _ h9 => h9) rfl dX10_walks_9 ?_
    refine lv_iload_n hx hb dX10_walks_12 rfl (lv_at hl 1 rfl) ?_
    obtain ⟨hi_2, h⟩ := ob h
    refine va_iald hx hb hK hPD.1 5 1 rfl rfl hi_2 dX10_walks_13 ?_
    refine lv_if_ne (tgt := 18) hx hb dX10_walks_14 (by decide) (fun cc1 => ?_) (fun cc1 => ?_)
    · have h := (if_neg cc1).symm.trans h
      refine lv_aload_n hx hb dX10_walks_18 rfl (lv_at hl 0 rfl) ?_
      refine va_get (D := G.1) (ci := 10) (v := .ref (a0 5)) (C := RX10) (T := TX10) (N := 52) hx hb hts inlX10 hown hK hPD.1 0 rfl rfl 5 (by decide) (hts _ gw_699) (fun _ h9 => h9) rfl dX10_walks_19 ?_
      refine lv_bipush (v := 48) hx hb dX10_walks_22 (by decide) ?_
      refine lv_iload_n hx hb dX10_walks_24 rfl (lv_at hl 1 rfl) ?_
      refine lv_imul hx hb dX10_walks_25 ?_
      refine lv_aload_n hx hb dX10_walks_26 rfl (lv_at hl 0 rfl) ?_
      refine va_get (D := G.1) (ci := 10) (v := .ref (a0 0)) (C := RX10) (T := TX10) (N := 52) hx hb hts inlX10 hown hK hPD.1 0 rfl rfl 0 (by decide) (hts _ gw_539) (fun _ h9 => h9) rfl dX10_walks_27 ?_
      refine lv_bipush (v := 74) hx hb dX10_walks_30 (by decide) ?_
      refine va_iald hx hb hK hPD.1 1 1 rfl rfl (vin rfl) dX10_walks_32 ?_
      refine lv_aload_n hx hb dX10_walks_33 rfl (lv_at hl 0 rfl) ?_
      refine va_get (D := G.1) (ci := 10) (v := .ref (a0 4)) (C := RX10) (T := TX10) (N := 52) hx hb hts inlX10 hown hK hPD.1 0 rfl rfl 4 (by decide) (hts _ gw_698) (fun _ h9 => h9) rfl dX10_walks_34 ?_
      refine lv_iload_n hx hb dX10_walks_37 rfl (lv_at hl 1 rfl) ?_
      obtain ⟨hi_3, h⟩ := ob h
      refine va_iald hx hb hK hPD.1 5 1 rfl rfl hi_3 dX10_walks_38 ?_
      obtain ⟨hz, h⟩ := ob h
      refine lv_irem hx hb dX10_walks_39 hz ?_
      refine lv_iadd hx hb dX10_walks_40 ?_
      obtain ⟨hi_4, h⟩ := ob h
      refine va_iald hx hb hK hPD.1 6 1 rfl rfl hi_4 dX10_walks_41 ?_
      obtain ⟨x_5, ex_5, h⟩ := lvl h
      refine lv_nm ex_5 ?_
      refine lv_istore_n (lv' := [(2, .int x_5), (0, .ref h0), (1, .int p1)]) hx hb dX10_walks_42 rfl hl (by decide) rfl (fun ls hl => ?_)
      refine lv_iload_n hx hb dX10_walks_43 rfl (lv_at hl 0 rfl) ?_
      refine lv_iconst (v := (-1)) hx hb dX10_walks_44 (by decide) ?_
      refine lv_icmp_eq (tgt := 87) hx hb dX10_walks_45 (by decide) (fun cc1 => ?_) (fun cc1 => ?_)
      · have h := (if_pos cc1).symm.trans h
        obtain rfl := Option.some.inj h
        exact eV C0 hPD.1 hPD.2 hS dX10_walks_87
      · have h := (if_neg cc1).symm.trans h
        refine lv_aload_n hx hb dX10_walks_48 rfl (lv_at hl 1 rfl) ?_
        refine lv_iload_n hx hb dX10_walks_49 rfl (lv_at hl 0 rfl) ?_
        refine kVI (As := [.int x_5]) (rest := []) C0 (kt_X10_isTold l G h0 a0 f0 A0 x_5) gi_V_X10_128_X10_isTold (n := 1) rfl (by decide +kernel) rfl ⟨rfl, rfl, Nat.le_of_ble_eq_true rfl, Nat.le_of_ble_eq_true rfl⟩ hPD hS 0 10 rfl rfl rfl [0, 1, 2, 3, 4, 5, 6, 7, 8, 9, 10, 11, 12, 13, 14, 15, 16, 17, 18, 19, 20, 21, 22, 23, 24, 25, 26, 27, 28, 29, 30, 31, 32, 33] [] [0, 1, 2, 3, 4, 5, 6, 7, 8, 9, 10, 11, 12, 13, 14, 15, 16, 17, 18, 19, 20, 21, 22, 23, 24, 25, 26, 27, 28, 29, 30, 31, 32, 33] (wN := (wX10 G h0 a0 f0 A0)) rfl rfl rfl rfl rfl hl.1 (Nat.le_of_ble_eq_true rfl) dX10_walks_50 (fun H locs hPD hS => ?_)
        refine lv_if_eq (tgt := 87) hx hb dX10_walks_53 (by decide) (fun cc1 => ?_) (fun cc1 => ?_)
        · have h := (if_pos cc1).symm.trans h
          obtain rfl := Option.some.inj h
          exact eV C0 hPD.1 hPD.2 hS dX10_walks_87
        · have h := (if_neg cc1).symm.trans h
          refine lv_aload_n hx hb dX10_walks_56 rfl (lv_at hl 1 rfl) ?_
          refine va_get (D := G.1) (ci := 10) (v := .ref (a0 3)) (C := RX10) (T := TX10) (N := 52) hx hb hts inlX10 hown hK hPD.1 0 rfl rfl 3 (by decide) (hts _ gw_666) (fun _ h9 => h9) rfl dX10_walks_57 ?_
          refine lv_aload_n hx hb dX10_walks_60 rfl (lv_at hl 1 rfl) ?_
          refine va_get (D := G.1) (ci := 10) (v := .ref (a0 0)) (C := RX10) (T := TX10) (N := 52) hx hb hts inlX10 hown hK hPD.1 0 rfl rfl 0 (by decide) (hts _ gw_539) (fun _ h9 => h9) rfl dX10_walks_61 ?_
          refine lv_bipush (v := 56) hx hb dX10_walks_64 (by decide) ?_
          refine lv_iload_n hx hb dX10_walks_66 rfl (lv_at hl 2 rfl) ?_
          refine lv_iadd hx hb dX10_walks_67 ?_
          obtain ⟨hi_6, h⟩ := ob h
          refine va_iald hx hb hK hPD.1 1 1 rfl rfl hi_6 dX10_walks_68 ?_
          obtain ⟨hi_7, h⟩ := ob h
          refine va_iald hx hb hK hPD.1 4 1 rfl rfl hi_7 dX10_walks_69 ?_
          refine lv_iload_n hx hb dX10_walks_70 rfl (lv_at hl 0 rfl) ?_
          refine kSI (As := [.int (gx (A0 3) (gx (A0 0) (56 + p1))), .int x_5]) (rest := []) C0 (kt_X10_has l G  (gx (A0 3) (gx (A0 0) (56 + p1))) x_5) gi_S_X10_120_X10_has (n := 2) rfl (by decide +kernel) ⟨rfl, rfl, Nat.le_of_ble_eq_true rfl, Nat.le_of_ble_eq_true rfl⟩ hPD hS [] [0, 1, 2, 3, 4, 5, 6, 7, 8, 9, 10, 11, 12, 13, 14, 15, 16, 17, 18, 19, 20, 21, 22, 23, 24, 25, 26, 27, 28, 29, 30, 31, 32, 33] [0, 1, 2, 3, 4, 5, 6, 7, 8, 9, 10, 11, 12, 13, 14, 15, 16, 17, 18, 19, 20, 21, 22, 23, 24, 25, 26, 27, 28, 29, 30, 31, 32, 33] (wN := (wX10 G h0 a0 f0 A0)) rfl rfl rfl rfl rfl hl.1 (Nat.le_of_ble_eq_true rfl) dX10_walks_71 (fun H locs hPD hS => ?_)
          refine lv_if_eq (tgt := 87) hx hb dX10_walks_74 (by decide) (fun cc1 => ?_) (fun cc1 => ?_)
          · have h := (if_pos cc1).symm.trans h
            obtain rfl := Option.some.inj h
            exact eV C0 hPD.1 hPD.2 hS dX10_walks_87
          · have h := (if_neg cc1).symm.trans h
            refine lv_aload_n hx hb dX10_walks_77 rfl (lv_at hl 1 rfl) ?_
            refine va_get (D := G.1) (ci := 10) (v := .ref (a0 0)) (C := RX10) (T := TX10) (N := 52) hx hb hts inlX10 hown hK hPD.1 0 rfl rfl 0 (by decide) (hts _ gw_539) (fun _ h9 => h9) rfl dX10_walks_78 ?_
            refine lv_bipush (v := 56) hx hb dX10_walks_81 (by decide) ?_
            refine lv_iload_n hx hb dX10_walks_83 rfl (lv_at hl 2 rfl) ?_
            refine lv_iadd hx hb dX10_walks_84 ?_
            refine lv_iload_n hx hb dX10_walks_85 rfl (lv_at hl 0 rfl) ?_
            obtain ⟨hi_8, h⟩ := ob h
            refine va_iast hx hb hK hPD.1 hPD.2 hS 1 1 rfl rfl hi_8 dX10_walks_86 (fun H locs hP hD hS => ?_)
            obtain ⟨A0_9, eA0_9, h⟩ := lvl h
            have hPD : WD G DA (wX10 G h0 a0 f0 A0_9) H := by rw [eA0_9]; exact ⟨hP, hD⟩
            clear eA0_9 hP hD
            obtain rfl := Option.some.inj h
            exact eV C0 hPD.1 hPD.2 hS dX10_walks_87
    · have h := (if_pos cc1).symm.trans h
      obtain rfl := Option.some.inj h
      exact eV C0 hPD.1 hPD.2 hS dX10_walks_17
end WALK
