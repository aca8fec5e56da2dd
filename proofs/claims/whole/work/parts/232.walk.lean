section WALK
variable {p : Program} {l : Launch} {e : Env} {s : State} {m : MethodId} {args : Array Value} {below : List Frame} {meth : Method} {c : Code} {G : Gp} {DA : Nat → Prop}
set_option maxRecDepth 100000 in
set_option maxHeartbeats 4000000 in
theorem ww_f10_readsRule_b33  (C0 : Cx cX10_readsRule 2 (some .boolean) RX10 p s m args meth c G DA) {h0 : Nat} {a0 : Nat → Nat}   {res : Int32 × (Nat → Nat → Int32) × (Nat → Int32)}  : ∀ (A0 : Nat → Nat → Int32) (f0 : Nat → Int32) (l1 : Int32), f10_readsRule_b33   A0 f0 l1 = some res → ∀ (H : Heap) (locs : List Loc) (ls : Array Slot), WD G DA (wX10 G h0 a0 f0 A0) H → va_S DA s.heap H locs → lv_has ls 2 [(0, .ref h0), (1, .int l1)] → W p l e rmX10_readsRule s m args below meth c H locs 0 0 (MQ below (QI G DA res.1 (wX10 G h0 a0 res.2.2 res.2.1)) args s 0 0 DA) (F0 m 33 ls []) := by
  obtain ⟨hx, hb, hml, hown, hts⟩ := C0.1
  have hK := C0.2.2.2.1
  intro A0 f0 l1 h _ _ _ hPD hS hl
  unfold f10_readsRule_b33 at h
  refine lv_aload_n hx hb dX10_readsRule_33 rfl (lv_at hl 0 rfl) ?_
  refine va_get (D := G.1) (ci := 10) (v := .int (f0 16)) (C := RX10) (T := TX10) (N := 52) hx hb hts inlX10 hown hK hPD.1 0 rfl rfl 16 (by decide) (hts _ gw_627) (fun _ h9 => h9) rfl dX10_readsRule_34 ?_
  refine lv_bipush (v := 16) hx hb dX10_readsRule_37 (by decide) ?_
  refine lv_icmp_ne (tgt := 52) hx hb dX10_readsRule_39 (by decide) (fun cc1 => ?_) (fun cc1 => ?_)
  · have h := (if_neg cc1).symm.trans h
    refine lv_aload_n hx hb dX10_readsRule_52 rfl (lv_at hl 0 rfl) ?_
    refine va_get (D := G.1) (ci := 10) (v := .ref (a0 20)) (C := RX10) (T := TX10) (N := 52) hx hb hts inlX10 hown hK hPD.1 0 rfl rfl 20 (by decide) (hts _ gw_628) (fun _ h9 => h9) rfl dX10_readsRule_53 ?_
    refine lv_aload_n hx hb dX10_readsRule_56 rfl (lv_at hl 0 rfl) ?_
    refine va_get (D := G.1) (ci := 10) (v := .int (f0 16)) (C := RX10) (T := TX10) (N := 52) hx hb hts inlX10 hown hK hPD.1 0 rfl rfl 16 (by decide) (hts _ gw_627) (fun _ h9 => h9) rfl dX10_readsRule_57 ?_
    refine lv_iload_n hx hb dX10_readsRule_60 rfl (lv_at hl 1 rfl) ?_
    obtain ⟨hi_2, h⟩ := ob h
    refine va_iast hx hb hK hPD.1 hPD.2 hS 10 1 rfl rfl hi_2 dX10_readsRule_61 (fun H locs hP hD hS => ?_)
    obtain ⟨A0_3, eA0_3, h⟩ := lvl h
    have hPD : WD G DA (wX10 G h0 a0 f0 A0_3) H := by rw [eA0_3]; exact ⟨hP, hD⟩
    clear eA0_3 hP hD
    refine lv_aload_n hx hb dX10_readsRule_62 rfl (lv_at hl 0 rfl) ?_
    refine lv_aload_n hx hb dX10_readsRule_63 rfl (lv_at hl 0 rfl) ?_
    refine va_get (D := G.1) (ci := 10) (v := .int (f0 9)) (C := RX10) (T := TX10) (N := 52) hx hb hts inlX10 hown hK hPD.1 0 rfl rfl 9 (by decide) (hts _ gw_551) (fun _ h9 => h9) rfl dX10_readsRule_64 ?_
    refine lv_iconst (v := 1) hx hb dX10_readsRule_67 (by decide) ?_
    refine lv_iadd hx hb dX10_readsRule_68 ?_
    refine va_put (D := G.1) (ci := 10) (v := .int ((f0 9) + 1)) (ty := .int) (C := RX10) (T := TX10) (N := 52) hx hb hts inlX10 tyX10 tyX10_ok nmX10 hown hK hPD.1 hPD.2 hS 0 rfl rfl 9 (by decide) (hts _ gw_551) (fun _ h9 => h9) rfl (by decide +kernel) rfl rfl (Nat.le_of_ble_eq_true rfl) dX10_readsRule_69 (fun H locs hP hD hS => ?_)
    obtain ⟨f0_4, ef0_4, h⟩ := lvl h
    have hPD : WD G DA (wX10 G h0 a0 f0_4 A0_3) H := by rw [ef0_4]; exact ⟨hP, hD⟩
    clear ef0_4 hP hD
    refine lv_aload_n hx hb dX10_readsRule_72 rfl (lv_at hl 0 rfl) ?_
    refine va_get (D := G.1) (ci := 10) (v := .ref (a0 21)) (C := RX10) (T := TX10) (N := 52) hx hb hts inlX10 hown hK hPD.1 0 rfl rfl 21 (by decide) (hts _ gw_629) (fun _ h9 => h9) rfl dX10_readsRule_73 ?_
    refine lv_aload_n hx hb dX10_readsRule_76 rfl (lv_at hl 0 rfl) ?_
    refine va_get (D := G.1) (ci := 10) (v := .int (f0_4 16)) (C := RX10) (T := TX10) (N := 52) hx hb hts inlX10 hown hK hPD.1 0 rfl rfl 16 (by decide) (hts _ gw_627) (fun _ h9 => h9) rfl dX10_readsRule_77 ?_
    refine lv_aload_n hx hb dX10_readsRule_80 rfl (lv_at hl 0 rfl) ?_
    refine va_get (D := G.1) (ci := 10) (v := .int (f0_4 14)) (C := RX10) (T := TX10) (N := 52) hx hb hts inlX10 hown hK hPD.1 0 rfl rfl 14 (by decide) (hts _ gw_568) (fun _ h9 => h9) rfl dX10_readsRule_81 ?_
    obtain ⟨hi_5, h⟩ := ob h
    refine va_iast hx hb hK hPD.1 hPD.2 hS 11 1 rfl rfl hi_5 dX10_readsRule_84 (fun H locs hP hD hS => ?_)
    obtain ⟨A0_6, eA0_6, h⟩ := lvl h
    have hPD : WD G DA (wX10 G h0 a0 f0_4 A0_6) H := by rw [eA0_6]; exact ⟨hP, hD⟩
    clear eA0_6 hP hD
    refine lv_aload_n hx hb dX10_readsRule_85 rfl (lv_at hl 0 rfl) ?_
    refine lv_iconst (v := 0) hx hb dX10_readsRule_86 (by decide) ?_
    refine va_put (D := G.1) (ci := 10) (v := .int 0) (ty := .int) (C := RX10) (T := TX10) (N := 52) hx hb hts inlX10 tyX10 tyX10_ok nmX10 hown hK hPD.1 hPD.2 hS 0 rfl rfl 13 (by decide) (hts _ gw_570) (fun _ h9 => h9) rfl (by decide +kernel) rfl rfl (Nat.le_of_ble_eq_true rfl) dX10_readsRule_87 (fun H locs hP hD hS => ?_)
    obtain ⟨f0_7, ef0_7, h⟩ := lvl h
    have hPD : WD G DA (wX10 G h0 a0 f0_7 A0_6) H := by rw [ef0_7]; exact ⟨hP, hD⟩
    clear ef0_7 hP hD
    refine lv_aload_n hx hb dX10_readsRule_90 rfl (lv_at hl 0 rfl) ?_
    refine lv_iconst (v := 0) hx hb dX10_readsRule_91 (by decide) ?_
    refine va_put (D := G.1) (ci := 10) (v := .int 0) (ty := .int) (C := RX10) (T := TX10) (N := 52) hx hb hts inlX10 tyX10 tyX10_ok nmX10 hown hK hPD.1 hPD.2 hS 0 rfl rfl 15 (by decide) (hts _ gw_572) (fun _ h9 => h9) rfl (by decide +kernel) rfl rfl (Nat.le_of_ble_eq_true rfl) dX10_readsRule_92 (fun H locs hP hD hS => ?_)
    obtain ⟨f0_8, ef0_8, h⟩ := lvl h
    have hPD : WD G DA (wX10 G h0 a0 f0_8 A0_6) H := by rw [ef0_8]; exact ⟨hP, hD⟩
    clear ef0_8 hP hD
    refine lv_iload_n hx hb dX10_readsRule_95 rfl (lv_at hl 1 rfl) ?_
    refine lv_bipush (v := 115) hx hb dX10_readsRule_96 (by decide) ?_
    refine lv_icmp_eq (tgt := 110) hx hb dX10_readsRule_98 (by decide) (fun cc1 => ?_) (fun cc1 => ?_)
    · have h := (if_pos cc1).symm.trans h
      exact ww_f10_readsRule_b110 C0 A0_6 f0_8 h _ _ _ hPD hS (lv_sub hl [0] rfl)
    · have h := (if_neg cc1).symm.trans h
      refine lv_aload_n hx hb dX10_readsRule_101 rfl (lv_at hl 0 rfl) ?_
      obtain ⟨q_15, hq_15, h⟩ := ob2 h
      refine kVI (As := []) (rest := []) C0 (kt_X10_readsSum l G h0 a0 f0_8 A0_6 hq_15) gi_V_X10_200_X10_readsSum (n := 0) rfl (by decide +kernel) rfl ⟨rfl, rfl, Nat.le_of_ble_eq_true rfl, Nat.le_of_ble_eq_true rfl⟩ hPD hS 0 10 rfl rfl rfl [0, 1, 2, 3, 4, 5, 6, 7, 8, 9, 10, 11, 12, 13, 14, 15, 16, 17, 18, 19, 20, 21, 22, 23, 24, 25, 26, 27, 28, 29, 30, 31, 32, 33] [] [0, 1, 2, 3, 4, 5, 6, 7, 8, 9, 10, 11, 12, 13, 14, 15, 16, 17, 18, 19, 20, 21, 22, 23, 24, 25, 26, 27, 28, 29, 30, 31, 32, 33] (wr := ([] : va_W)) (wN := (wX10 G h0 a0 q_15.2.2 q_15.2.1)) rfl rfl rfl rfl rfl hl.1 (Nat.le_of_ble_eq_true rfl) dX10_readsRule_102 (fun H locs hPD hS => ?_)
      refine lv_if_ne (tgt := 110) hx hb dX10_readsRule_105 (by decide) (fun cc1 => ?_) (fun cc1 => ?_)
      · have h := (if_neg cc1).symm.trans h
        exact ww_f10_readsRule_b110 C0 q_15.2.1 q_15.2.2 h _ _ _ hPD hS (lv_sub hl [0] rfl)
      · have h := (if_pos cc1).symm.trans h
        refine lv_iconst (v := 0) hx hb dX10_readsRule_108 (by decide) ?_
        obtain rfl := Option.some.inj h
        exact eZ C0 hPD.1 hPD.2 hS rfl rfl dX10_readsRule_109
  · have h := (if_pos cc1).symm.trans h
    refine lv_aload_n hx hb dX10_readsRule_42 rfl (lv_at hl 0 rfl) ?_
    refine lv_iconst (v := 4) hx hb dX10_readsRule_43 (by decide) ?_
    refine lv_aload_n hx hb dX10_readsRule_44 rfl (lv_at hl 0 rfl) ?_
    refine va_get (D := G.1) (ci := 10) (v := .int (f0 9)) (C := RX10) (T := TX10) (N := 52) hx hb hts inlX10 hown hK hPD.1 0 rfl rfl 9 (by decide) (hts _ gw_551) (fun _ h9 => h9) rfl dX10_readsRule_45 ?_
    obtain ⟨q_16, hq_16, h⟩ := ob2 h
    refine kVI (As := [.int 4, .int (f0 9)]) (rest := []) C0 (kt_X10_wrongAt l G h0 a0 f0 A0 4 (f0 9) hq_16) gi_V_X10_151_X10_wrongAt (n := 2) rfl (by decide +kernel) rfl ⟨rfl, rfl, Nat.le_of_ble_eq_true rfl, Nat.le_of_ble_eq_true rfl⟩ hPD hS 0 10 rfl rfl rfl [0, 1, 2, 3, 4, 5, 6, 7, 8, 9, 10, 11, 12, 13, 14, 15, 16, 17, 18, 19, 20, 21, 22, 23, 24, 25, 26, 27, 28, 29, 30, 31, 32, 33] [] [0, 1, 2, 3, 4, 5, 6, 7, 8, 9, 10, 11, 12, 13, 14, 15, 16, 17, 18, 19, 20, 21, 22, 23, 24, 25, 26, 27, 28, 29, 30, 31, 32, 33] (wr := ([] : va_W)) (wN := (wX10 G h0 a0 q_16.2 A0)) rfl rfl rfl rfl rfl hl.1 (Nat.le_of_ble_eq_true rfl) dX10_readsRule_48 (fun H locs hPD hS => ?_)
    obtain ⟨hz, h⟩ := ob h
    obtain rfl := Option.some.inj h
    exact eZ C0 hPD.1 hPD.2 hS rfl (nbool (Classical.not_not.mp hz)) dX10_readsRule_51
set_option maxRecDepth 100000 in
set_option maxHeartbeats 4000000 in
theorem kt_X10_readsRule (l : Launch) (G : Gp) (h0 : Nat) (a0 : Nat → Nat) (f0 : Nat → Int32) (A0 : Nat → Nat → Int32) : ∀ {r : Int32 × (Nat → Nat → Int32) × (Nat → Int32)}, f10_readsRule f0 A0 = some r → CtrI l yX10_readsRule cX10_readsRule 2 (some .boolean) rmX10_readsRule G [.ref h0] (wX10 G h0 a0 f0 A0) r.1 (wX10 G h0 a0 r.2.2 r.2.1) := by
  intro res h
  refine ctrI_of (cc := cX10_readsRule) (maxL := 2) (ret := (some .boolean)) (by decide +kernel) rfl (Nat.le_of_ble_eq_true rfl) (fun p e s m below meth c DA C0 hP hD ls hl => ?_)
  have hPD : WD G DA (wX10 G h0 a0 f0 A0) s.heap := ⟨hP, hD⟩
  have hS : va_S DA s.heap s.heap [] := va_S.rf
  have hl : lv_has ls 2 [(0, .ref h0)] := hl
  obtain ⟨hx, hb, hml, hown, hts⟩ := C0.1
  have hK := C0.2.2.2.1
  unfold f10_readsRule at h
  refine lv_aload_n hx hb dX10_readsRule_0 rfl (lv_at hl 0 rfl) ?_
  obtain ⟨q_1, hq_1, h⟩ := ob2 h
  refine kVI (As := []) (rest := []) C0 (kt_X10_here l G h0 a0 f0 A0 hq_1) gi_V_X10_144_X10_here (n := 0) rfl (by decide +kernel) rfl ⟨rfl, rfl, Nat.le_of_ble_eq_true rfl, Nat.le_of_ble_eq_true rfl⟩ hPD hS 0 10 rfl rfl rfl [0, 1, 2, 3, 4, 5, 6, 7, 8, 9, 10, 11, 12, 13, 14, 15, 16, 17, 18, 19, 20, 21, 22, 23, 24, 25, 26, 27, 28, 29, 30, 31, 32, 33] [] [0, 1, 2, 3, 4, 5, 6, 7, 8, 9, 10, 11, 12, 13, 14, 15, 16, 17, 18, 19, 20, 21, 22, 23, 24, 25, 26, 27, 28, 29, 30, 31, 32, 33] (wr := ([] : va_W)) (wN := (wX10 G h0 a0 f0 A0)) rfl rfl rfl rfl rfl hl.1 (Nat.le_of_ble_eq_true rfl) dX10_readsRule_1 (fun H locs hPD hS => ?_)
  refine lv_istore_n (lv' := [(1, .int q_1), (0, .ref h0)]) hx hb dX10_readsRule_4 rfl hl (by decide) rfl (fun ls hl => ?_)
  refine lv_iload_n hx hb dX10_readsRule_5 rfl (lv_at hl 0 rfl) ?_
  refine lv_bipush (v := 119) hx hb dX10_readsRule_6 (by decide) ?_
  refine lv_icmp_eq (tgt := 33) hx hb dX10_readsRule_8 (by decide) (fun cc1 => ?_) (fun cc1 => ?_)
  · have h := (if_pos cc1).symm.trans h
    exact ww_f10_readsRule_b33 C0 A0 f0 q_1 h _ _ _ hPD hS (lv_sub hl [1, 0] rfl)
  · have h := (if_neg cc1).symm.trans h
    refine lv_iload_n hx hb dX10_readsRule_11 rfl (lv_at hl 0 rfl) ?_
    refine lv_bipush (v := 114) hx hb dX10_readsRule_12 (by decide) ?_
    refine lv_icmp_eq (tgt := 33) hx hb dX10_readsRule_14 (by decide) (fun cc1 => ?_) (fun cc1 => ?_)
    · have h := (if_pos cc1).symm.trans h
      exact ww_f10_readsRule_b33 C0 A0 f0 q_1 h _ _ _ hPD hS (lv_sub hl [1, 0] rfl)
    · have h := (if_neg cc1).symm.trans h
      refine lv_iload_n hx hb dX10_readsRule_17 rfl (lv_at hl 0 rfl) ?_
      refine lv_bipush (v := 115) hx hb dX10_readsRule_18 (by decide) ?_
      refine lv_icmp_eq (tgt := 33) hx hb dX10_readsRule_20 (by decide) (fun cc1 => ?_) (fun cc1 => ?_)
      · have h := (if_pos cc1).symm.trans h
        exact ww_f10_readsRule_b33 C0 A0 f0 q_1 h _ _ _ hPD hS (lv_sub hl [1, 0] rfl)
      · have h := (if_neg cc1).symm.trans h
        refine lv_aload_n hx hb dX10_readsRule_23 rfl (lv_at hl 1 rfl) ?_
        refine lv_iconst (v := 1) hx hb dX10_readsRule_24 (by decide) ?_
        refine lv_aload_n hx hb dX10_readsRule_25 rfl (lv_at hl 1 rfl) ?_
        refine va_get (D := G.1) (ci := 10) (v := .int (f0 9)) (C := RX10) (T := TX10) (N := 52) hx hb hts inlX10 hown hK hPD.1 0 rfl rfl 9 (by decide) (hts _ gw_551) (fun _ h9 => h9) rfl dX10_readsRule_26 ?_
        obtain ⟨q_17, hq_17, h⟩ := ob2 h
        refine kVI (As := [.int 1, .int (f0 9)]) (rest := []) C0 (kt_X10_wrongAt l G h0 a0 f0 A0 1 (f0 9) hq_17) gi_V_X10_151_X10_wrongAt (n := 2) rfl (by decide +kernel) rfl ⟨rfl, rfl, Nat.le_of_ble_eq_true rfl, Nat.le_of_ble_eq_true rfl⟩ hPD hS 0 10 rfl rfl rfl [0, 1, 2, 3, 4, 5, 6, 7, 8, 9, 10, 11, 12, 13, 14, 15, 16, 17, 18, 19, 20, 21, 22, 23, 24, 25, 26, 27, 28, 29, 30, 31, 32, 33] [] [0, 1, 2, 3, 4, 5, 6, 7, 8, 9, 10, 11, 12, 13, 14, 15, 16, 17, 18, 19, 20, 21, 22, 23, 24, 25, 26, 27, 28, 29, 30, 31, 32, 33] (wr := ([] : va_W)) (wN := (wX10 G h0 a0 q_17.2 A0)) rfl rfl rfl rfl rfl hl.1 (Nat.le_of_ble_eq_true rfl) dX10_readsRule_29 (fun H locs hPD hS => ?_)
        obtain ⟨hz, h⟩ := ob h
        obtain rfl := Option.some.inj h
        exact eZ C0 hPD.1 hPD.2 hS rfl (nbool (Classical.not_not.mp hz)) dX10_readsRule_32
abbrev rmX10_beginsText : Room := { frames := 0, cells := 0, slots := 0, locals := 0 }
set_option maxRecDepth 100000 in
set_option maxHeartbeats 4000000 in
theorem kt_X10_beginsText (l : Launch) (G : Gp) (h0 : Nat) (a0 : Nat → Nat) (f0 : Nat → Int32) (A0 : Nat → Nat → Int32) (p1 : Int32) : CtrV l yX10_beginsText cX10_beginsText 2 none rmX10_beginsText G [.ref h0, .int p1] (wX10 G h0 a0 f0 A0) (wX10 G h0 a0 (f10_beginsText f0 A0 p1) A0) := by
  obtain ⟨res, h⟩ : ∃ res, f10_beginsText f0 A0 p1 = res := ⟨_, rfl⟩
  rw [h]
  refine ctrV_of (cc := cX10_beginsText) (maxL := 2) (ret := none) (by decide +kernel) rfl (Nat.le_of_ble_eq_true rfl) (fun p e s m below meth c DA C0 hP hD ls hl => ?_)
  have hPD : WD G DA (wX10 G h0 a0 f0 A0) s.heap := ⟨hP, hD⟩
  have hS : va_S DA s.heap s.heap [] := va_S.rf
  have hl : lv_has ls 2 [(0, .ref h0), (1, .int p1)] := hl
  obtain ⟨hx, hb, hml, hown, hts⟩ := C0.1
  have hK := C0.2.2.2.1
  unfold f10_beginsText at h
  refine lv_aload_n hx hb dX10_beginsText_0 rfl (lv_at hl 0 rfl) ?_
  refine lv_iconst (v := 0) hx hb dX10_beginsText_1 (by decide) ?_
  refine va_put (D := G.1) (ci := 10) (v := .int 0) (ty := .int) (C := RX10) (T := TX10) (N := 52) hx hb hts inlX10 tyX10 tyX10_ok nmX10 hown hK hPD.1 hPD.2 hS 0 rfl rfl 9 (by decide) (hts _ gw_551) (fun _ h9 => h9) rfl (by decide +kernel) rfl rfl (Nat.le_of_ble_eq_true rfl) dX10_beginsText_2 (fun H locs hP hD hS => ?_)
  obtain ⟨f0_1, ef0_1, h⟩ := lvl h
  have hPD : WD G DA (wX10 G h0 a0 f0_1 A0) H := by rw [ef0_1]; exact ⟨hP, hD⟩
  clear ef0_1 hP hD
  refine lv_aload_n hx hb dX10_beginsText_5 rfl (lv_at hl 0 rfl) ?_
  refine lv_iload_n hx hb dX10_beginsText_6 rfl (lv_at hl 1 rfl) ?_
  refine va_put (D := G.1) (ci := 10) (v := .int p1) (ty := .int) (C := RX10) (T := TX10) (N := 52) hx hb hts inlX10 tyX10 tyX10_ok nmX10 hown hK hPD.1 hPD.2 hS 0 rfl rfl 10 (by decide) (hts _ gw_552) (fun _ h9 => h9) rfl (by decide +kernel) rfl rfl (Nat.le_of_ble_eq_true rfl) dX10_beginsText_7 (fun H locs hP hD hS => ?_)
  obtain ⟨f0_2, ef0_2, h⟩ := lvl h
  have hPD : WD G DA (wX10 G h0 a0 f0_2 A0) H := by rw [ef0_2]; exact ⟨hP, hD⟩
  clear ef0_2 hP hD
  refine lv_aload_n hx hb dX10_beginsText_10 rfl (lv_at hl 0 rfl) ?_
  refine lv_iconst (v := 0) hx hb dX10_beginsText_11 (by decide) ?_
  refine va_put (D := G.1) (ci := 10) (v := .int 0) (ty := .int) (C := RX10) (T := TX10) (N := 52) hx hb hts inlX10 tyX10 tyX10_ok nmX10 hown hK hPD.1 hPD.2 hS 0 rfl rfl 14 (by decide) (hts _ gw_568) (fun _ h9 => h9) rfl (by decide +kernel) rfl rfl (Nat.le_of_ble_eq_true rfl) dX10_beginsText_12 (fun H locs hP hD hS => ?_)
  obtain ⟨f0_3, ef0_3, h⟩ := lvl h
  have hPD : WD G DA (wX10 G h0 a0 f0_3 A0) H := by rw [ef0_3]; exact ⟨hP, hD⟩
  clear ef0_3 hP hD
  refine lv_aload_n hx hb dX10_beginsText_15 rfl (lv_at hl 0 rfl) ?_
  refine lv_iconst (v := 0) hx hb dX10_beginsText_16 (by decide) ?_
  refine va_put (D := G.1) (ci := 10) (v := .int 0) (ty := .int) (C := RX10) (T := TX10) (N := 52) hx hb hts inlX10 tyX10 tyX10_ok nmX10 hown hK hPD.1 hPD.2 hS 0 rfl rfl 16 (by decide) (hts _ gw_627) (fun _ h9 => h9) rfl (by decide +kernel) rfl rfl (Nat.le_of_ble_eq_true rfl) dX10_beginsText_17 (fun H locs hP hD hS => ?_)
  obtain ⟨f0_4, ef0_4, h⟩ := lvl h
  have hPD : WD G DA (wX10 G h0 a0 f0_4 A0) H := by rw [ef0_4]; exact ⟨hP, hD⟩
  clear ef0_4 hP hD
  subst h
  exact eV C0 hPD.1 hPD.2 hS dX10_beginsText_20
abbrev rmX10_law : Room := { frames := 8, cells := 0, slots := 0, locals := 166 }
set_option maxRecDepth 100000 in
set_option maxHeartbeats 4000000 in
theorem ww_f10_law_b123  (C0 : Cx cX10_law 4 (some .int) RX10 p s m args meth c G DA) {h0 : Nat} {a0 : Nat → Nat} {p1 : Int32}  {k123 : (Nat → Nat → Int32) → (Nat → Int32) → Int32 → Option (Int32 × (Nat → Nat → Int32) × (Nat → Int32))} {res : Int32 × (Nat → Nat → Int32) × (Nat → Int32)}  (hk123 : ∀ (A0 : Nat → Nat → Int32) (f0 : Nat → Int32) (l3 : Int32), k123 A0 f0 l3 = some res → ∀ (H : Heap) (locs : List Loc) (ls : Array Slot), WD G DA (wX10 G h0 a0 f0 A0) H → va_S DA s.heap H locs → lv_has ls 4 [(0, .ref h0), (1, .int p1), (3, .int l3)] → W p l e rmX10_law s m args below meth c H locs 0 0 (MQ below (QI G DA res.1 (wX10 G h0 a0 res.2.2 res.2.1)) args s 0 0 DA) (F0 m 123 ls [])) : ∀ (A0 : Nat → Nat → Int32) (f0 : Nat → Int32) (l3 : Int32), f10_law_b123 p1  k123 A0 f0 l3 = some res → ∀ (H : Heap) (locs : List Loc) (ls : Array Slot), WD G DA (wX10 G h0 a0 f0 A0) H → va_S DA s.heap H locs → lv_has ls 4 [(0, .ref h0), (1, .int p1), (3, .int l3)] → W p l e rmX10_law s m args below meth c H locs 0 0 (MQ below (QI G DA res.1 (wX10 G h0 a0 res.2.2 res.2.1)) args s 0 0 DA) (F0 m 123 ls []) := by
  obtain ⟨hx, hb, hml, hown, hts⟩ := C0.1
  have hK := C0.2.2.2.1
  intro A0 f0 l3 h _ _ _ hPD hS hl
  unfold f10_law_b123 at h
  refine lv_iload_n hx hb dX10_law_123 rfl (lv_at hl 2 rfl) ?_
  refine lv_aload_n hx hb dX10_law_124 rfl (lv_at hl 0 rfl) ?_
  refine va_get (D := G.1) (ci := 10) (v := .int (f0 16)) (C := RX10) (T := TX10) (N := 52) hx hb hts inlX10 hown hK hPD.1 0 rfl rfl 16 (by decide) (hts _ gw_627) (fun _ h9 => h9) rfl dX10_law_125 ?_
  refine lv_icmp_ge (tgt := 185) hx hb dX10_law_128 (by decide) (fun cc1 => ?_) (fun cc1 => ?_)
  · have h := (if_pos cc1).symm.trans h
    refine lv_aload_n hx hb dX10_law_185 rfl (lv_at hl 0 rfl) ?_
    refine va_get (D := G.1) (ci := 10) (v := .int (f0 16)) (C := RX10) (T := TX10) (N := 52) hx hb hts inlX10 hown hK hPD.1 0 rfl rfl 16 (by decide) (hts _ gw_627) (fun _ h9 => h9) rfl dX10_law_186 ?_
    obtain rfl := Option.some.inj h
    exact eI C0 hPD.1 hPD.2 hS rfl dX10_law_189
  · have h := (if_neg cc1).symm.trans h
    refine lv_aload_n hx hb dX10_law_131 rfl (lv_at hl 0 rfl) ?_
    refine va_get (D := G.1) (ci := 10) (v := .ref (a0 25)) (C := RX10) (T := TX10) (N := 52) hx hb hts inlX10 hown hK hPD.1 0 rfl rfl 25 (by decide) (hts _ gw_645) (fun _ h9 => h9) rfl dX10_law_132 ?_
    refine lv_iload_n hx hb dX10_law_135 rfl (lv_at hl 2 rfl) ?_
    refine lv_aload_n hx hb dX10_law_136 rfl (lv_at hl 0 rfl) ?_
    refine va_get (D := G.1) (ci := 10) (v := .ref (a0 20)) (C := RX10) (T := TX10) (N := 52) hx hb hts inlX10 hown hK hPD.1 0 rfl rfl 20 (by decide) (hts _ gw_628) (fun _ h9 => h9) rfl dX10_law_137 ?_
    refine lv_iload_n hx hb dX10_law_140 rfl (lv_at hl 2 rfl) ?_
    obtain ⟨hi_5, h⟩ := ob h
    refine va_iald hx hb hK hPD.1 10 1 rfl rfl hi_5 dX10_law_141 ?_
    obtain ⟨hi_6, h⟩ := ob h
    refine va_iast hx hb hK hPD.1 hPD.2 hS 15 1 rfl rfl hi_6 dX10_law_142 (fun H locs hP hD hS => ?_)
    obtain ⟨A0_7, eA0_7, h⟩ := lvl h
    have hPD : WD G DA (wX10 G h0 a0 f0 A0_7) H := by rw [eA0_7]; exact ⟨hP, hD⟩
    clear eA0_7 hP hD
    refine lv_aload_n hx hb dX10_law_143 rfl (lv_at hl 0 rfl) ?_
    refine va_get (D := G.1) (ci := 10) (v := .ref (a0 26)) (C := RX10) (T := TX10) (N := 52) hx hb hts inlX10 hown hK hPD.1 0 rfl rfl 26 (by decide) (hts _ gw_646) (fun _ h9 => h9) rfl dX10_law_144 ?_
    refine lv_iload_n hx hb dX10_law_147 rfl (lv_at hl 2 rfl) ?_
    refine lv_aload_n hx hb dX10_law_148 rfl (lv_at hl 0 rfl) ?_
    refine va_get (D := G.1) (ci := 10) (v := .ref (a0 21)) (C := RX10) (T := TX10) (N := 52) hx hb hts inlX10 hown hK hPD.1 0 rfl rfl 21 (by decide) (hts _ gw_629) (fun _ h9 => h9) rfl dX10_law_149 ?_
    refine lv_iload_n hx hb dX10_law_152 rfl (lv_at hl 2 rfl) ?_
    obtain ⟨hi_8, h⟩ := ob h
    refine va_iald hx hb hK hPD.1 11 1 rfl rfl hi_8 dX10_law_153 ?_
    obtain ⟨hi_9, h⟩ := ob h
    refine va_iast hx hb hK hPD.1 hPD.2 hS 16 1 rfl rfl hi_9 dX10_law_154 (fun H locs hP hD hS => ?_)
    obtain ⟨A0_10, eA0_10, h⟩ := lvl h
    have hPD : WD G DA (wX10 G h0 a0 f0 A0_10) H := by rw [eA0_10]; exact ⟨hP, hD⟩
    clear eA0_10 hP hD
    refine lv_aload_n hx hb dX10_law_155 rfl (lv_at hl 0 rfl) ?_
    refine va_get (D := G.1) (ci := 10) (v := .ref (a0 27)) (C := RX10) (T := TX10) (N := 52) hx hb hts inlX10 hown hK hPD.1 0 rfl rfl 27 (by decide) (hts _ gw_647) (fun _ h9 => h9) rfl dX10_law_156 ?_
    refine lv_iload_n hx hb dX10_law_159 rfl (lv_at hl 2 rfl) ?_
    refine lv_aload_n hx hb dX10_law_160 rfl (lv_at hl 0 rfl) ?_
    refine va_get (D := G.1) (ci := 10) (v := .ref (a0 22)) (C := RX10) (T := TX10) (N := 52) hx hb hts inlX10 hown hK hPD.1 0 rfl rfl 22 (by decide) (hts _ gw_630) (fun _ h9 => h9) rfl dX10_law_161 ?_
    refine lv_iload_n hx hb dX10_law_164 rfl (lv_at hl 2 rfl) ?_
    obtain ⟨hi_11, h⟩ := ob h
    refine va_iald hx hb hK hPD.1 12 1 rfl rfl hi_11 dX10_law_165 ?_
    obtain ⟨hi_12, h⟩ := ob h
    refine va_iast hx hb hK hPD.1 hPD.2 hS 17 1 rfl rfl hi_12 dX10_law_166 (fun H locs hP hD hS => ?_)
    obtain ⟨A0_13, eA0_13, h⟩ := lvl h
    have hPD : WD G DA (wX10 G h0 a0 f0 A0_13) H := by rw [eA0_13]; exact ⟨hP, hD⟩
    clear eA0_13 hP hD
    refine lv_aload_n hx hb dX10_law_167 rfl (lv_at hl 0 rfl) ?_
    refine va_get (D := G.1) (ci := 10) (v := .ref (a0 28)) (C := RX10) (T := TX10) (N := 52) hx hb hts inlX10 hown hK hPD.1 0 rfl rfl 28 (by decide) (hts _ gw_648) (fun _ h9 => h9) rfl dX10_law_168 ?_
    refine lv_iload_n hx hb dX10_law_171 rfl (lv_at hl 2 rfl) ?_
    refine lv_aload_n hx hb dX10_law_172 rfl (lv_at hl 0 rfl) ?_
    refine va_get (D := G.1) (ci := 10) (v := .ref (a0 23)) (C := RX10) (T := TX10) (N := 52) hx hb hts inlX10 hown hK hPD.1 0 rfl rfl 23 (by decide) (hts _ gw_635) (fun _ h9 => h9) rfl dX10_law_173 ?_
    refine lv_iload_n hx hb dX10_law_176 rfl (lv_at hl 2 rfl) ?_
    obtain ⟨hi_14, h⟩ := ob h
    refine va_iald hx hb hK hPD.1 13 1 rfl rfl hi_14 dX10_law_177 ?_
    obtain ⟨hi_15, h⟩ := ob h
    refine va_iast hx hb hK hPD.1 hPD.2 hS 18 1 rfl rfl hi_15 dX10_law_178 (fun H locs hP hD hS => ?_)
    obtain ⟨A0_16, eA0_16, h⟩ := lvl h
    have hPD : WD G DA (wX10 G h0 a0 f0 A0_16) H := by rw [eA0_16]; exact ⟨hP, hD⟩
    clear eA0_16 hP hD
    refine lv_iinc (v := l3 + 1) (lv' := [(3, .int (l3 + 1)), (0, .ref h0), (1, .int p1)]) hx hb dX10_law_179 hl (k := 2) rfl rfl (by decide) rfl (fun ls hl => ?_)
    refine lv_goto (tgt := 123) hx hb dX10_law_182 (by decide) ?_
    exact hk123 A0_16 f0 (l3 + 1) h _ _ _ hPD hS (lv_sub hl [1, 2, 0] rfl)
set_option maxRecDepth 100000 in
set_option maxHeartbeats 4000000 in
theorem ww_f10_law_l123  (C0 : Cx cX10_law 4 (some .int) RX10 p s m args meth c G DA) {h0 : Nat} {a0 : Nat → Nat} {p1 : Int32}   {res : Int32 × (Nat → Nat → Int32) × (Nat → Int32)}  : ∀ (n : Nat) (A0 : Nat → Nat → Int32) (f0 : Nat → Int32) (l3 : Int32), f10_law_l123 p1  n A0 f0 l3 = some res → ∀ (H : Heap) (locs : List Loc) (ls : Array Slot), WD G DA (wX10 G h0 a0 f0 A0) H → va_S DA s.heap H locs → lv_has ls 4 [(0, .ref h0), (1, .int p1), (3, .int l3)] → W p l e rmX10_law s m args below meth c H locs 0 0 (MQ below (QI G DA res.1 (wX10 G h0 a0 res.2.2 res.2.1)) args s 0 0 DA) (F0 m 123 ls []) := by
  intro n
  induction n with
  | zero => intro A0 f0 l3 h; cases h
  | succ n ih => intro A0 f0 l3 h; exact ww_f10_law_b123 C0  ih A0 f0 l3 h
set_option maxRecDepth 100000 in
set_option maxHeartbeats 4000000 in
theorem ww_f10_law_b95  (C0 : Cx cX10_law 4 (some .int) RX10 p s m args meth c G DA) {h0 : Nat} {a0 : Nat → Nat} {p1 : Int32}  {k95 : (Nat → Nat → Int32) → (Nat → Int32) → Int32 → Option (Int32 × (Nat → Nat → Int32) × (Nat → Int32))} {res : Int32 × (Nat → Nat → Int32) × (Nat → Int32)}  (hk95 : ∀ (A0 : Nat → Nat → Int32) (f0 : Nat → Int32) (l3 : Int32), k95 A0 f0 l3 = some res → ∀ (H : Heap) (locs : List Loc) (ls : Array Slot), WD G DA (wX10 G h0 a0 f0 A0) H → va_S DA s.heap H locs → lv_has ls 4 [(0, .ref h0), (1, .int p1), (3, .int l3)] → W p l e rmX10_law s m args below meth c H locs 0 0 (MQ below (QI G DA res.1 (wX10 G h0 a0 res.2.2 res.2.1)) args s 0 0 DA) (F0 m 95 ls [])) : ∀ (A0 : Nat → Nat → Int32) (f0 : Nat → Int32) (l3 : Int32), f10_law_b95 p1  k95 A0 f0 l3 = some res → ∀ (H : Heap) (locs : List Loc) (ls : Array Slot), WD G DA (wX10 G h0 a0 f0 A0) H → va_S DA s.heap H locs → lv_has ls 4 [(0, .ref h0), (1, .int p1), (3, .int l3)] → W p l e rmX10_law s m args below meth c H locs 0 0 (MQ below (QI G DA res.1 (wX10 G h0 a0 res.2.2 res.2.1)) args s 0 0 DA) (F0 m 95 ls []) := by
  obtain ⟨hx, hb, hml, hown, hts⟩ := C0.1
  have hK := C0.2.2.2.1
  intro A0 f0 l3 h _ _ _ hPD hS hl
  unfold f10_law_b95 at h
  refine lv_iload_n hx hb dX10_law_95 rfl (lv_at hl 2 rfl) ?_
  refine lv_aload_n hx hb dX10_law_96 rfl (lv_at hl 0 rfl) ?_
  refine va_get (D := G.1) (ci := 10) (v := .int (f0 14)) (C := RX10) (T := TX10) (N := 52) hx hb hts inlX10 hown hK hPD.1 0 rfl rfl 14 (by decide) (hts _ gw_568) (fun _ h9 => h9) rfl dX10_law_97 ?_
  refine lv_icmp_ge (tgt := 121) hx hb dX10_law_100 (by decide) (fun cc1 => ?_) (fun cc1 => ?_)
  · have h := (if_pos cc1).symm.trans h
    refine lv_iconst (v := 0) hx hb dX10_law_121 (by decide) ?_
    refine lv_istore_n (lv' := [(3, .int 0), (0, .ref h0), (1, .int p1)]) hx hb dX10_law_122 rfl hl (by decide) rfl (fun ls hl => ?_)
    exact ww_f10_law_l123 C0 NF A0 f0 0 h _ _ _ hPD hS (lv_sub hl [1, 2, 0] rfl)
  · have h := (if_neg cc1).symm.trans h
    refine lv_aload_n hx hb dX10_law_103 rfl (lv_at hl 0 rfl) ?_
    refine va_get (D := G.1) (ci := 10) (v := .ref (a0 24)) (C := RX10) (T := TX10) (N := 52) hx hb hts inlX10 hown hK hPD.1 0 rfl rfl 24 (by decide) (hts _ gw_649) (fun _ h9 => h9) rfl dX10_law_104 ?_
    refine lv_iload_n hx hb dX10_law_107 rfl (lv_at hl 2 rfl) ?_
    refine lv_aload_n hx hb dX10_law_108 rfl (lv_at hl 0 rfl) ?_
    refine va_get (D := G.1) (ci := 10) (v := .ref (a0 18)) (C := RX10) (T := TX10) (N := 52) hx hb hts inlX10 hown hK hPD.1 0 rfl rfl 18 (by decide) (hts _ gw_567) (fun _ h9 => h9) rfl dX10_law_109 ?_
    refine lv_iload_n hx hb dX10_law_112 rfl (lv_at hl 2 rfl) ?_
    obtain ⟨hi_17, h⟩ := ob h
    refine va_iald hx hb hK hPD.1 8 1 rfl rfl hi_17 dX10_law_113 ?_
    obtain ⟨hi_18, h⟩ := ob h
    refine va_iast hx hb hK hPD.1 hPD.2 hS 14 1 rfl rfl hi_18 dX10_law_114 (fun H locs hP hD hS => ?_)
    obtain ⟨A0_19, eA0_19, h⟩ := lvl h
    have hPD : WD G DA (wX10 G h0 a0 f0 A0_19) H := by rw [eA0_19]; exact ⟨hP, hD⟩
    clear eA0_19 hP hD
    refine lv_iinc (v := l3 + 1) (lv' := [(3, .int (l3 + 1)), (0, .ref h0), (1, .int p1)]) hx hb dX10_law_115 hl (k := 2) rfl rfl (by decide) rfl (fun ls hl => ?_)
    refine lv_goto (tgt := 95) hx hb dX10_law_118 (by decide) ?_
    exact hk95 A0_19 f0 (l3 + 1) h _ _ _ hPD hS (lv_sub hl [1, 2, 0] rfl)
set_option maxRecDepth 100000 in
set_option maxHeartbeats 4000000 in
theorem ww_f10_law_l95  (C0 : Cx cX10_law 4 (some .int) RX10 p s m args meth c G DA) {h0 : Nat} {a0 : Nat → Nat} {p1 : Int32}   {res : Int32 × (Nat → Nat → Int32) × (Nat → Int32)}  : ∀ (n : Nat) (A0 : Nat → Nat → Int32) (f0 : Nat → Int32) (l3 : Int32), f10_law_l95 p1  n A0 f0 l3 = some res → ∀ (H : Heap) (locs : List Loc) (ls : Array Slot), WD G DA (wX10 G h0 a0 f0 A0) H → va_S DA s.heap H locs → lv_has ls 4 [(0, .ref h0), (1, .int p1), (3, .int l3)] → W p l e rmX10_law s m args below meth c H locs 0 0 (MQ below (QI G DA res.1 (wX10 G h0 a0 res.2.2 res.2.1)) args s 0 0 DA) (F0 m 95 ls []) := by
  intro n
  induction n with
  | zero => intro A0 f0 l3 h; cases h
  | succ n ih => intro A0 f0 l3 h; exact ww_f10_law_b95 C0  ih A0 f0 l3 h
set_option maxRecDepth 100000 in
set_option maxHeartbeats 4000000 in
theorem ww_f10_law_b71  (C0 : Cx cX10_law 4 (some .int) RX10 p s m args meth c G DA) {h0 : Nat} {a0 : Nat → Nat} {p1 : Int32}   {res : Int32 × (Nat → Nat → Int32) × (Nat → Int32)}  : ∀ (A0 : Nat → Nat → Int32) (f0 : Nat → Int32) (l2 : Int32), f10_law_b71 p1  A0 f0 l2 = some res → ∀ (H : Heap) (locs : List Loc) (ls : Array Slot), WD G DA (wX10 G h0 a0 f0 A0) H → va_S DA s.heap H locs → lv_has ls 4 [(0, .ref h0), (1, .int p1), (2, .int l2)] → W p l e rmX10_law s m args below meth c H locs 0 0 (MQ below (QI G DA res.1 (wX10 G h0 a0 res.2.2 res.2.1)) args s 0 0 DA) (F0 m 71 ls []) := by
  obtain ⟨hx, hb, hml, hown, hts⟩ := C0.1
  have hK := C0.2.2.2.1
  intro A0 f0 l2 h _ _ _ hPD hS hl
  unfold f10_law_b71 at h
  refine lv_aload_n hx hb dX10_law_71 rfl (lv_at hl 0 rfl) ?_
  refine lv_iconst (v := 0) hx hb dX10_law_72 (by decide) ?_
  refine va_put (D := G.1) (ci := 10) (v := .int 0) (ty := .int) (C := RX10) (T := TX10) (N := 52) hx hb hts inlX10 tyX10 tyX10_ok nmX10 hown hK hPD.1 hPD.2 hS 0 rfl rfl 8 (by decide) (hts _ gw_546) (fun _ h9 => h9) rfl (by decide +kernel) rfl rfl (Nat.le_of_ble_eq_true rfl) dX10_law_73 (fun H locs hP hD hS => ?_)
  obtain ⟨f0_3, ef0_3, h⟩ := lvl h
  have hPD : WD G DA (wX10 G h0 a0 f0_3 A0) H := by rw [ef0_3]; exact ⟨hP, hD⟩
  clear ef0_3 hP hD
  refine lv_iload_n hx hb dX10_law_76 rfl (lv_at hl 2 rfl) ?_
  refine lv_if_ne (tgt := 85) hx hb dX10_law_77 (by decide) (fun cc1 => ?_) (fun cc1 => ?_)
  · have h := (if_neg cc1).symm.trans h
    refine lv_aload_n hx hb dX10_law_85 rfl (lv_at hl 0 rfl) ?_
    refine lv_aload_n hx hb dX10_law_86 rfl (lv_at hl 0 rfl) ?_
    refine va_get (D := G.1) (ci := 10) (v := .int (f0_3 16)) (C := RX10) (T := TX10) (N := 52) hx hb hts inlX10 hown hK hPD.1 0 rfl rfl 16 (by decide) (hts _ gw_627) (fun _ h9 => h9) rfl dX10_law_87 ?_
    refine va_put (D := G.1) (ci := 10) (v := .int (f0_3 16)) (ty := .int) (C := RX10) (T := TX10) (N := 52) hx hb hts inlX10 tyX10 tyX10_ok nmX10 hown hK hPD.1 hPD.2 hS 0 rfl rfl 17 (by decide) (hts _ gw_644) (fun _ h9 => h9) rfl (by decide +kernel) rfl rfl (Nat.le_of_ble_eq_true rfl) dX10_law_90 (fun H locs hP hD hS => ?_)
    obtain ⟨f0_4, ef0_4, h⟩ := lvl h
    have hPD : WD G DA (wX10 G h0 a0 f0_4 A0) H := by rw [ef0_4]; exact ⟨hP, hD⟩
    clear ef0_4 hP hD
    refine lv_iconst (v := 0) hx hb dX10_law_93 (by decide) ?_
    refine lv_istore_n (lv' := [(3, .int 0), (0, .ref h0), (1, .int p1), (2, .int l2)]) hx hb dX10_law_94 rfl hl (by decide) rfl (fun ls hl => ?_)
    exact ww_f10_law_l95 C0 NF A0 f0_4 0 h _ _ _ hPD hS (lv_sub hl [1, 2, 0] rfl)
  · have h := (if_pos cc1).symm.trans h
    refine lv_aload_n hx hb dX10_law_80 rfl (lv_at hl 0 rfl) ?_
    refine va_get (D := G.1) (ci := 10) (v := .int (f0_3 11)) (C := RX10) (T := TX10) (N := 52) hx hb hts inlX10 hown hK hPD.1 0 rfl rfl 11 (by decide) (hts _ gw_557) (fun _ h9 => h9) rfl dX10_law_81 ?_
    obtain rfl := Option.some.inj h
    exact eI C0 hPD.1 hPD.2 hS rfl dX10_law_84
set_option maxRecDepth 100000 in
set_option maxHeartbeats 4000000 in
theorem ww_f10_law_b31  (C0 : Cx cX10_law 4 (some .int) RX10 p s m args meth c G DA) {h0 : Nat} {a0 : Nat → Nat} {p1 : Int32}  {k31 : (Nat → Nat → Int32) → (Nat → Int32) → Int32 → Option (Int32 × (Nat → Nat → Int32) × (Nat → Int32))} {res : Int32 × (Nat → Nat → Int32) × (Nat → Int32)}  (hk31 : ∀ (A0 : Nat → Nat → Int32) (f0 : Nat → Int32) (l2 : Int32), k31 A0 f0 l2 = some res → ∀ (H : Heap) (locs : List Loc) (ls : Array Slot), WD G DA (wX10 G h0 a0 f0 A0) H → va_S DA s.heap H locs → lv_has ls 4 [(0, .ref h0), (1, .int p1), (2, .int l2)] → W p l e rmX10_law s m args below meth c H locs 0 0 (MQ below (QI G DA res.1 (wX10 G h0 a0 res.2.2 res.2.1)) args s 0 0 DA) (F0 m 31 ls [])) : ∀ (A0 : Nat → Nat → Int32) (f0 : Nat → Int32) (l2 : Int32), f10_law_b31 p1  k31 A0 f0 l2 = some res → ∀ (H : Heap) (locs : List Loc) (ls : Array Slot), WD G DA (wX10 G h0 a0 f0 A0) H → va_S DA s.heap H locs → lv_has ls 4 [(0, .ref h0), (1, .int p1), (2, .int l2)] → W p l e rmX10_law s m args below meth c H locs 0 0 (MQ below (QI G DA res.1 (wX10 G h0 a0 res.2.2 res.2.1)) args s 0 0 DA) (F0 m 31 ls []) := by
  obtain ⟨hx, hb, hml, hown, hts⟩ := C0.1
  have hK := C0.2.2.2.1
  intro A0 f0 l2 h _ _ _ hPD hS hl
  unfold f10_law_b31 at h
  refine lv_iload_n hx hb dX10_law_31 rfl (lv_at hl 2 rfl) ?_
  refine lv_if_eq (tgt := 71) hx hb dX10_law_32 (by decide) (fun cc1 => ?_) (fun cc1 => ?_)
  · have h := (if_pos cc1).symm.trans h
    exact ww_f10_law_b71 C0 A0 f0 l2 h _ _ _ hPD hS (lv_sub hl [0, 1, 2] rfl)
  · have h := (if_neg cc1).symm.trans h
    refine lv_aload_n hx hb dX10_law_35 rfl (lv_at hl 0 rfl) ?_
    refine va_get (D := G.1) (ci := 10) (v := .int (f0 9)) (C := RX10) (T := TX10) (N := 52) hx hb hts inlX10 hown hK hPD.1 0 rfl rfl 9 (by decide) (hts _ gw_551) (fun _ h9 => h9) rfl dX10_law_36 ?_
    refine lv_aload_n hx hb dX10_law_39 rfl (lv_at hl 0 rfl) ?_
    refine va_get (D := G.1) (ci := 10) (v := .int (f0 10)) (C := RX10) (T := TX10) (N := 52) hx hb hts inlX10 hown hK hPD.1 0 rfl rfl 10 (by decide) (hts _ gw_552) (fun _ h9 => h9) rfl dX10_law_40 ?_
    refine lv_icmp_ge (tgt := 71) hx hb dX10_law_43 (by decide) (fun cc1 => ?_) (fun cc1 => ?_)
    · have h := (if_pos cc1).symm.trans h
      exact ww_f10_law_b71 C0 A0 f0 l2 h _ _ _ hPD hS (lv_sub hl [0, 1, 2] rfl)
    · have h := (if_neg cc1).symm.trans h
      refine lv_aload_n hx hb dX10_law_46 rfl (lv_at hl 0 rfl) ?_
      refine lv_bipush (v := 59) hx hb dX10_law_47 (by decide) ?_
      obtain ⟨q_20, hq_20, h⟩ := ob2 h
      refine kVI (As := [.int 59]) (rest := []) C0 (kt_X10_takes l G h0 a0 f0 A0 59 hq_20) gi_V_X10_227_X10_takes (n := 1) rfl (by decide +kernel) rfl ⟨rfl, rfl, Nat.le_of_ble_eq_true rfl, Nat.le_of_ble_eq_true rfl⟩ hPD hS 0 10 rfl rfl rfl [0, 1, 2, 3, 4, 5, 6, 7, 8, 9, 10, 11, 12, 13, 14, 15, 16, 17, 18, 19, 20, 21, 22, 23, 24, 25, 26, 27, 28, 29, 30, 31, 32, 33] [] [0, 1, 2, 3, 4, 5, 6, 7, 8, 9, 10, 11, 12, 13, 14, 15, 16, 17, 18, 19, 20, 21, 22, 23, 24, 25, 26, 27, 28, 29, 30, 31, 32, 33] (wr := ([] : va_W)) (wN := (wX10 G h0 a0 q_20.2 A0)) rfl rfl rfl rfl rfl hl.1 (Nat.le_of_ble_eq_true rfl) dX10_law_49 (fun H locs hPD hS => ?_)
      refine lv_if_eq (tgt := 66) hx hb dX10_law_52 (by decide) (fun cc1 => ?_) (fun cc1 => ?_)
      · have h := (if_pos cc1).symm.trans h
        refine lv_iconst (v := 0) hx hb dX10_law_66 (by decide) ?_
        refine lv_istore_n (lv' := [(2, .int 0), (0, .ref h0), (1, .int p1)]) hx hb dX10_law_67 rfl hl (by decide) rfl (fun ls hl => ?_)
        refine lv_goto (tgt := 31) hx hb dX10_law_68 (by decide) ?_
        exact hk31 A0 q_20.2 0 h _ _ _ hPD hS (lv_sub hl [1, 2, 0] rfl)
      · have h := (if_neg cc1).symm.trans h
        refine lv_aload_n hx hb dX10_law_55 rfl (lv_at hl 0 rfl) ?_
        obtain ⟨q_21, hq_21, h⟩ := ob2 h
        refine kVI (As := []) (rest := []) C0 (kt_X10_readsRule l G h0 a0 q_20.2 A0 hq_21) gi_V_X10_224_X10_readsRule (n := 0) rfl (by decide +kernel) rfl ⟨rfl, rfl, Nat.le_of_ble_eq_true rfl, Nat.le_of_ble_eq_true rfl⟩ hPD hS 0 10 rfl rfl rfl [0, 1, 2, 3, 4, 5, 6, 7, 8, 9, 10, 11, 12, 13, 14, 15, 16, 17, 18, 19, 20, 21, 22, 23, 24, 25, 26, 27, 28, 29, 30, 31, 32, 33] [] [0, 1, 2, 3, 4, 5, 6, 7, 8, 9, 10, 11, 12, 13, 14, 15, 16, 17, 18, 19, 20, 21, 22, 23, 24, 25, 26, 27, 28, 29, 30, 31, 32, 33] (wr := ([] : va_W)) (wN := (wX10 G h0 a0 q_21.2.2 q_21.2.1)) rfl rfl rfl rfl rfl hl.1 (Nat.le_of_ble_eq_true rfl) dX10_law_56 (fun H locs hPD hS => ?_)
        refine lv_if_eq (tgt := 66) hx hb dX10_law_59 (by decide) (fun cc1 => ?_) (fun cc1 => ?_)
        · have h := (if_pos cc1).symm.trans h
          refine lv_iconst (v := 0) hx hb dX10_law_66 (by decide) ?_
          refine lv_istore_n (lv' := [(2, .int 0), (0, .ref h0), (1, .int p1)]) hx hb dX10_law_67 rfl hl (by decide) rfl (fun ls hl => ?_)
          refine lv_goto (tgt := 31) hx hb dX10_law_68 (by decide) ?_
          exact hk31 q_21.2.1 q_21.2.2 0 h _ _ _ hPD hS (lv_sub hl [1, 2, 0] rfl)
        · have h := (if_neg cc1).symm.trans h
          refine lv_iconst (v := 1) hx hb dX10_law_62 (by decide) ?_
          refine lv_goto (tgt := 67) hx hb dX10_law_63 (by decide) ?_
          refine lv_istore_n (lv' := [(2, .int 1), (0, .ref h0), (1, .int p1)]) hx hb dX10_law_67 rfl hl (by decide) rfl (fun ls hl => ?_)
          refine lv_goto (tgt := 31) hx hb dX10_law_68 (by decide) ?_
          exact hk31 q_21.2.1 q_21.2.2 1 h _ _ _ hPD hS (lv_sub hl [1, 2, 0] rfl)
set_option maxRecDepth 100000 in
set_option maxHeartbeats 4000000 in
theorem ww_f10_law_l31  (C0 : Cx cX10_law 4 (some .int) RX10 p s m args meth c G DA) {h0 : Nat} {a0 : Nat → Nat} {p1 : Int32}   {res : Int32 × (Nat → Nat → Int32) × (Nat → Int32)}  : ∀ (n : Nat) (A0 : Nat → Nat → Int32) (f0 : Nat → Int32) (l2 : Int32), f10_law_l31 p1  n A0 f0 l2 = some res → ∀ (H : Heap) (locs : List Loc) (ls : Array Slot), WD G DA (wX10 G h0 a0 f0 A0) H → va_S DA s.heap H locs → lv_has ls 4 [(0, .ref h0), (1, .int p1), (2, .int l2)] → W p l e rmX10_law s m args below meth c H locs 0 0 (MQ below (QI G DA res.1 (wX10 G h0 a0 res.2.2 res.2.1)) args s 0 0 DA) (F0 m 31 ls []) := by
  intro n
  induction n with
  | zero => intro A0 f0 l2 h; cases h
  | succ n ih => intro A0 f0 l2 h; exact ww_f10_law_b31 C0  ih A0 f0 l2 h
set_option maxRecDepth 100000 in
set_option maxHeartbeats 4000000 in
theorem kt_X10_law (l : Launch) (G : Gp) (h0 : Nat) (a0 : Nat → Nat) (f0 : Nat → Int32) (A0 : Nat → Nat → Int32) (p1 : Int32) : ∀ {r : Int32 × (Nat → Nat → Int32) × (Nat → Int32)}, f10_law f0 A0 p1 = some r → CtrI l yX10_law cX10_law 4 (some .int) rmX10_law G [.ref h0, .int p1] (wX10 G h0 a0 f0 A0) r.1 (wX10 G h0 a0 r.2.2 r.2.1) := by
  intro res h
  refine ctrI_of (cc := cX10_law) (maxL := 4) (ret := (some .int)) (by decide +kernel) rfl (Nat.le_of_ble_eq_true rfl) (fun p e s m below meth c DA C0 hP hD ls hl => ?_)
  have hPD : WD G DA (wX10 G h0 a0 f0 A0) s.heap := ⟨hP, hD⟩
  have hS : va_S DA s.heap s.heap [] := va_S.rf
  have hl : lv_has ls 4 [(0, .ref h0), (1, .int p1)] := hl
  obtain ⟨hx, hb, hml, hown, hts⟩ := C0.1
  have hK := C0.2.2.2.1
  unfold f10_law at h
  refine lv_iload_n hx hb dX10_law_0 rfl (lv_at hl 1 rfl) ?_
  refine lv_iconst (v := 1) hx hb dX10_law_1 (by decide) ?_
  refine lv_sipush (v := 240) hx hb dX10_law_2 (by decide) ?_
  refine kSI (As := [.int p1, .int 1, .int 240]) (rest := []) C0 (kt_X10_in l G  p1 1 240) gi_S_X10_112_X10_in (n := 3) rfl (by decide +kernel) ⟨rfl, rfl, Nat.le_of_ble_eq_true rfl, Nat.le_of_ble_eq_true rfl⟩ hPD hS [] [0, 1, 2, 3, 4, 5, 6, 7, 8, 9, 10, 11, 12, 13, 14, 15, 16, 17, 18, 19, 20, 21, 22, 23, 24, 25, 26, 27, 28, 29, 30, 31, 32, 33] [0, 1, 2, 3, 4, 5, 6, 7, 8, 9, 10, 11, 12, 13, 14, 15, 16, 17, 18, 19, 20, 21, 22, 23, 24, 25, 26, 27, 28, 29, 30, 31, 32, 33] (wr := (wX10 G h0 a0 f0 A0)) (wN := (wX10 G h0 a0 f0 A0)) rfl rfl rfl rfl rfl hl.1 (Nat.le_of_ble_eq_true rfl) dX10_law_5 (fun H locs hPD hS => ?_)
  refine lv_if_eq (tgt := 19) hx hb dX10_law_8 (by decide) (fun cc1 => ?_) (fun cc1 => ?_)
  · have h := (if_pos cc1).symm.trans h
    refine lv_iconst (v := (-1)) hx hb dX10_law_19 (by decide) ?_
    obtain rfl := Option.some.inj h
    exact eI C0 hPD.1 hPD.2 hS rfl dX10_law_20
  · have h := (if_neg cc1).symm.trans h
    refine lv_iload_n hx hb dX10_law_11 rfl (lv_at hl 1 rfl) ?_
    refine lv_aload_n hx hb dX10_law_12 rfl (lv_at hl 0 rfl) ?_
    refine va_get (D := G.1) (ci := 10) (v := .int (f0 8)) (C := RX10) (T := TX10) (N := 52) hx hb hts inlX10 hown hK hPD.1 0 rfl rfl 8 (by decide) (hts _ gw_546) (fun _ h9 => h9) rfl dX10_law_13 ?_
    refine lv_icmp_le (tgt := 21) hx hb dX10_law_16 (by decide) (fun cc1 => ?_) (fun cc1 => ?_)
    · have h := (if_pos cc1).symm.trans h
      refine lv_aload_n hx hb dX10_law_21 rfl (lv_at hl 0 rfl) ?_
      refine lv_iload_n hx hb dX10_law_22 rfl (lv_at hl 1 rfl) ?_
      obtain ⟨z_1, ez_1, h⟩ := lvl h
      have kc := kt_X10_beginsText l G h0 a0 f0 A0 p1
      rw [← ez_1] at kc
      clear ez_1
      refine kVV (As := [.int p1]) (rest := []) C0 (kc) gi_V_X10_221_X10_beginsText (n := 1) rfl (by decide +kernel) rfl ⟨rfl, rfl, Nat.le_of_ble_eq_true rfl, Nat.le_of_ble_eq_true rfl⟩ hPD hS 0 10 rfl rfl rfl [0, 1, 2, 3, 4, 5, 6, 7, 8, 9, 10, 11, 12, 13, 14, 15, 16, 17, 18, 19, 20, 21, 22, 23, 24, 25, 26, 27, 28, 29, 30, 31, 32, 33] [] [0, 1, 2, 3, 4, 5, 6, 7, 8, 9, 10, 11, 12, 13, 14, 15, 16, 17, 18, 19, 20, 21, 22, 23, 24, 25, 26, 27, 28, 29, 30, 31, 32, 33] (wr := ([] : va_W)) (wN := (wX10 G h0 a0 z_1 A0)) rfl rfl rfl rfl rfl hl.1 (Nat.le_of_ble_eq_true rfl) dX10_law_23 (fun H locs hPD hS => ?_)
      refine lv_aload_n hx hb dX10_law_26 rfl (lv_at hl 0 rfl) ?_
      obtain ⟨q_2, hq_2, h⟩ := ob2 h
      refine kVI (As := []) (rest := []) C0 (kt_X10_readsRule l G h0 a0 z_1 A0 hq_2) gi_V_X10_224_X10_readsRule (n := 0) rfl (by decide +kernel) rfl ⟨rfl, rfl, Nat.le_of_ble_eq_true rfl, Nat.le_of_ble_eq_true rfl⟩ hPD hS 0 10 rfl rfl rfl [0, 1, 2, 3, 4, 5, 6, 7, 8, 9, 10, 11, 12, 13, 14, 15, 16, 17, 18, 19, 20, 21, 22, 23, 24, 25, 26, 27, 28, 29, 30, 31, 32, 33] [] [0, 1, 2, 3, 4, 5, 6, 7, 8, 9, 10, 11, 12, 13, 14, 15, 16, 17, 18, 19, 20, 21, 22, 23, 24, 25, 26, 27, 28, 29, 30, 31, 32, 33] (wr := ([] : va_W)) (wN := (wX10 G h0 a0 q_2.2.2 q_2.2.1)) rfl rfl rfl rfl rfl hl.1 (Nat.le_of_ble_eq_true rfl) dX10_law_27 (fun H locs hPD hS => ?_)
      refine lv_istore_n (lv' := [(2, .int q_2.1), (0, .ref h0), (1, .int p1)]) hx hb dX10_law_30 rfl hl (by decide) rfl (fun ls hl => ?_)
      exact ww_f10_law_l31 C0 NF q_2.2.1 q_2.2.2 q_2.1 h _ _ _ hPD hS (lv_sub hl [1, 2, 0] rfl)
    · have h := (if_neg cc1).symm.trans h
      refine lv_iconst (v := (-1)) hx hb dX10_law_19 (by decide) ?_
      obtain rfl := Option.some.inj h
      exact eI C0 hPD.1 hPD.2 hS rfl dX10_law_20
end WALK
