section WALK
variable {p : Program} {l : Launch} {e : Env} {s : State} {m : MethodId} {args : Array Value} {below : List Frame} {meth : Method} {c : Code} {G : Gp} {DA : Nat → Prop}
abbrev rmX5_tempt : Room := { frames := 4, cells := 0, slots := 0, locals := 88 }
set_option maxRecDepth 100000 in
set_option maxHeartbeats 4000000 in
theorem ww_f5_tempt_b40  (C0 : Cx cX5_tempt 6 none RX5 p s m args meth c G DA) {h0 : Nat} {a0 : Nat → Nat} {h1 : Nat} {a1 : Nat → Nat} {h2 : Nat} {a2 : Nat → Nat} {A0 : Nat → Nat → Int32} {p3 : Int32}   {res : (Nat → Int32) × (Nat → Nat → Int32) × (Nat → Int32) × (Nat → Nat → Int32) × (Nat → Int32)}  : ∀ (f0 : Nat → Int32) (A1 : Nat → Nat → Int32) (f1 : Nat → Int32) (A2 : Nat → Nat → Int32) (f2 : Nat → Int32) (s0 : Int32), f5_tempt_b40 A0 p3  f0 A1 f1 A2 f2 s0 = some res → ∀ (H : Heap) (locs : List Loc) (ls : Array Slot), WD G DA (wX5 G h0 a0 f0 A0 ++ (wX6 G h1 a1 f1 A1 ++ (wX2 G h2 a2 f2 A2))) H → va_S DA s.heap H locs → lv_has ls 6 [(0, .ref h0), (1, .ref h1), (2, .ref h2), (3, .int p3)] → W p l e rmX5_tempt s m args below meth c H locs 0 0 (MQ below (QV G DA (wX5 G h0 a0 res.1 A0 ++ (wX6 G h1 a1 res.2.2.1 res.2.1 ++ (wX2 G h2 a2 res.2.2.2.2 res.2.2.2.1)))) args s 0 0 DA) (F0 m 40 ls [.int s0]) := by
  obtain ⟨hx, hb, hml, hown, hts⟩ := C0.1
  have hK := C0.2.2.2.1
  intro f0 A1 f1 A2 f2 s0 h _ _ _ hPD hS hl
  unfold f5_tempt_b40 at h
  refine lv_istore (lv' := [(5, .int s0), (0, .ref h0), (1, .ref h1), (2, .ref h2), (3, .int p3)]) hx hb dX5_tempt_40 hl (by decide) rfl (fun ls hl => ?_)
  refine lv_aload_n hx hb dX5_tempt_42 rfl (lv_at hl 1 rfl) ?_
  refine va_get (D := G.1) (ci := 5) (v := .ref (a0 0)) (C := RX5) (T := TX5) (N := 4) hx hb hts inlX5 hown hK hPD.1 0 rfl rfl 0 (by decide) (hts _ gw_277) (fun _ h9 => h9) rfl dX5_tempt_43 ?_
  refine lv_iload_n hx hb dX5_tempt_46 rfl (lv_at hl 4 rfl) ?_
  refine kNI (As := [.ref (a0 0), .int p3]) (rest := []) C0 (kt_X9_at l G (a0 0) 16 (A0 0) p3 (by decide)) gi_U_X9_at (host := "IdleCrimes") (index := 49) (List.mem_of_getElem? (i := 24) rfl) gw_6 gw_7 (n := 2) rfl (by decide +kernel) ⟨rfl, rfl, Nat.le_of_ble_eq_true rfl, Nat.le_of_ble_eq_true rfl⟩ hPD hS [1] [0, 2, 3, 4, 5, 6, 7, 8, 9, 10, 11, 12, 13, 14, 15, 16] [0, 16, 1, 2, 3, 4, 5, 6, 7, 8, 9, 10, 11, 12, 13, 14, 15] (wN := (wX5 G h0 a0 f0 A0 ++ (wX6 G h1 a1 f1 A1 ++ (wX2 G h2 a2 f2 A2)))) rfl rfl rfl rfl rfl hl.1 (Nat.le_of_ble_eq_true rfl) dX5_tempt_47 (fun H locs hPD hS => ?_)
  refine lv_if_le (tgt := 74) hx hb dX5_tempt_50 (by decide) (fun cc1 => ?_) (fun cc1 => ?_)
  · have h := (if_pos cc1).symm.trans h
    refine lv_iload hx hb dX5_tempt_74 (lv_at hl 0 rfl) ?_
    refine lv_if_eq (tgt := 127) hx hb dX5_tempt_76 (by decide) (fun cc1 => ?_) (fun cc1 => ?_)
    · have h := (if_pos cc1).symm.trans h
      obtain rfl := Option.some.inj h
      exact eV C0 hPD.1 hPD.2 hS dX5_tempt_127
    · have h := (if_neg cc1).symm.trans h
      refine lv_aload_n hx hb dX5_tempt_79 rfl (lv_at hl 1 rfl) ?_
      refine lv_dup hx hb dX5_tempt_80 rfl ?_
      refine va_get (D := G.1) (ci := 5) (v := .int (f0 2)) (C := RX5) (T := TX5) (N := 4) hx hb hts inlX5 hown hK hPD.1 0 rfl rfl 2 (by decide) (hts _ gw_303) (fun _ h9 => h9) rfl dX5_tempt_81 ?_
      refine lv_iconst (v := 1) hx hb dX5_tempt_84 (by decide) ?_
      refine lv_iadd hx hb dX5_tempt_85 ?_
      refine va_put (D := G.1) (ci := 5) (v := .int ((f0 2) + 1)) (ty := .int) (C := RX5) (T := TX5) (N := 4) hx hb hts inlX5 tyX5 tyX5_ok nmX5 hown hK hPD.1 hPD.2 hS 0 rfl rfl 2 (by decide) (hts _ gw_303) (fun _ h9 => h9) rfl (by decide +kernel) rfl rfl (Nat.le_of_ble_eq_true rfl) dX5_tempt_86 (fun H locs hP hD hS => ?_)
      obtain ⟨f0_4, ef0_4, h⟩ := lvl h
      have hPD : WD G DA (wX5 G h0 a0 f0_4 A0 ++ (wX6 G h1 a1 f1 A1 ++ (wX2 G h2 a2 f2 A2))) H := by rw [ef0_4]; exact ⟨hP, hD⟩
      clear ef0_4 hP hD
      refine lv_aload_n hx hb dX5_tempt_89 rfl (lv_at hl 2 rfl) ?_
      refine lv_aload_n hx hb dX5_tempt_90 rfl (lv_at hl 2 rfl) ?_
      refine va_get (D := G.1) (ci := 6) (v := .int (f1 7)) (C := RX6) (T := TX6) (N := 10) hx hb hts inlX6 hown hK hPD.1 3 rfl rfl 7 (by decide) (hts _ gw_285) (fun _ h9 => h9) rfl dX5_tempt_91 ?_
      refine lv_iconst (v := 1) hx hb dX5_tempt_94 (by decide) ?_
      refine lv_iadd hx hb dX5_tempt_95 ?_
      refine lv_sipush (v := 9999) hx hb dX5_tempt_96 (by decide) ?_
      refine va_mmin hx hb (hml.trans hl.1.symm) hown (hts _ gw_279) (hts _ gw_208) (hts _ gw_209) (hts _ gw_210) (Nat.le_of_ble_eq_true rfl) (Nat.le_of_ble_eq_true rfl) (Nat.zero_le _) (Nat.zero_le _) dX5_tempt_99 ?_
      refine va_put (D := G.1) (ci := 6) (v := .int (imin ((f1 7) + 1) 9999)) (ty := .int) (C := RX6) (T := TX6) (N := 10) hx hb hts inlX6 tyX6 tyX6_ok nmX6 hown hK hPD.1 hPD.2 hS 3 rfl rfl 7 (by decide) (hts _ gw_285) (fun _ h9 => h9) rfl (by decide +kernel) rfl rfl (Nat.le_of_ble_eq_true rfl) dX5_tempt_102 (fun H locs hP hD hS => ?_)
      obtain ⟨f1_5, ef1_5, h⟩ := lvl h
      have hPD : WD G DA (wX5 G h0 a0 f0_4 A0 ++ (wX6 G h1 a1 f1_5 A1 ++ (wX2 G h2 a2 f2 A2))) H := by rw [ef1_5]; exact ⟨hP, hD⟩
      clear ef1_5 hP hD
      refine lv_aload_n hx hb dX5_tempt_105 rfl (lv_at hl 2 rfl) ?_
      refine lv_aload_n hx hb dX5_tempt_106 rfl (lv_at hl 2 rfl) ?_
      refine va_get (D := G.1) (ci := 6) (v := .int (f1_5 6)) (C := RX6) (T := TX6) (N := 10) hx hb hts inlX6 hown hK hPD.1 3 rfl rfl 6 (by decide) (hts _ gw_304) (fun _ h9 => h9) rfl dX5_tempt_107 ?_
      refine lv_aload_n hx hb dX5_tempt_110 rfl (lv_at hl 2 rfl) ?_
      refine va_get (D := G.1) (ci := 6) (v := .ref (a1 1)) (C := RX6) (T := TX6) (N := 10) hx hb hts inlX6 hown hK hPD.1 3 rfl rfl 1 (by decide) (hts _ gw_282) (fun _ h9 => h9) rfl dX5_tempt_111 ?_
      refine lv_iload_n hx hb dX5_tempt_114 rfl (lv_at hl 4 rfl) ?_
      refine kNI (As := [.ref (a1 1), .int p3]) (rest := [.int (f1_5 6), .ref h1]) C0 (kt_X9_at l G (a1 1) 16 (A1 1) p3 (by decide)) gi_U_X9_at (host := "IdleCrimes") (index := 49) (List.mem_of_getElem? (i := 24) rfl) gw_6 gw_7 (n := 2) rfl (by decide +kernel) ⟨rfl, rfl, Nat.le_of_ble_eq_true rfl, Nat.le_of_ble_eq_true rfl⟩ hPD hS [5] [0, 1, 2, 3, 4, 6, 7, 8, 9, 10, 11, 12, 13, 14, 15, 16] [0, 1, 2, 3, 4, 16, 5, 6, 7, 8, 9, 10, 11, 12, 13, 14, 15] (wN := (wX5 G h0 a0 f0_4 A0 ++ (wX6 G h1 a1 f1_5 A1 ++ (wX2 G h2 a2 f2 A2)))) rfl rfl rfl rfl rfl hl.1 (Nat.le_of_ble_eq_true rfl) dX5_tempt_115 (fun H locs hPD hS => ?_)
      refine lv_iadd hx hb dX5_tempt_118 ?_
      refine lv_ldc (v := 999999) hx hb hown (hts _ gw_289) dX5_tempt_119 ?_
      refine va_mmin hx hb (hml.trans hl.1.symm) hown (hts _ gw_279) (hts _ gw_208) (hts _ gw_209) (hts _ gw_210) (Nat.le_of_ble_eq_true rfl) (Nat.le_of_ble_eq_true rfl) (Nat.zero_le _) (Nat.zero_le _) dX5_tempt_121 ?_
      refine va_put (D := G.1) (ci := 6) (v := .int (imin ((f1_5 6) + (f9_at 16 (A1 1) p3)) 999999)) (ty := .int) (C := RX6) (T := TX6) (N := 10) hx hb hts inlX6 tyX6 tyX6_ok nmX6 hown hK hPD.1 hPD.2 hS 3 rfl rfl 6 (by decide) (hts _ gw_304) (fun _ h9 => h9) rfl (by decide +kernel) rfl rfl (Nat.le_of_ble_eq_true rfl) dX5_tempt_124 (fun H locs hP hD hS => ?_)
      obtain ⟨f1_6, ef1_6, h⟩ := lvl h
      have hPD : WD G DA (wX5 G h0 a0 f0_4 A0 ++ (wX6 G h1 a1 f1_6 A1 ++ (wX2 G h2 a2 f2 A2))) H := by rw [ef1_6]; exact ⟨hP, hD⟩
      clear ef1_6 hP hD
      obtain rfl := Option.some.inj h
      exact eV C0 hPD.1 hPD.2 hS dX5_tempt_127
  · have h := (if_neg cc1).symm.trans h
    refine lv_aload_n hx hb dX5_tempt_53 rfl (lv_at hl 1 rfl) ?_
    refine lv_aload_n hx hb dX5_tempt_54 rfl (lv_at hl 2 rfl) ?_
    refine lv_iload_n hx hb dX5_tempt_55 rfl (lv_at hl 4 rfl) ?_
    refine lv_aload_n hx hb dX5_tempt_56 rfl (lv_at hl 3 rfl) ?_
    refine lv_bipush (v := 119) hx hb dX5_tempt_57 (by decide) ?_
    refine lv_bipush (v := 99) hx hb dX5_tempt_59 (by decide) ?_
    refine lv_aload_n hx hb dX5_tempt_61 rfl (lv_at hl 1 rfl) ?_
    refine va_get (D := G.1) (ci := 5) (v := .ref (a0 1)) (C := RX5) (T := TX5) (N := 4) hx hb hts inlX5 hown hK hPD.1 0 rfl rfl 1 (by decide) (hts _ gw_280) (fun _ h9 => h9) rfl dX5_tempt_62 ?_
    obtain ⟨q_7, hq_7, h⟩ := ob2 h
    refine kVI (As := [.int 119, .int 99, .ref (a0 1)]) (rest := [.int p3, .ref h1, .ref h0]) C0 (kt_X2_rate l G h2 a2 (a0 1) f2 A2 8 (A0 1) 119 99 (by decide) hq_7) gi_V_X5_104_X2_rate (n := 3) rfl (by decide +kernel) rfl ⟨rfl, rfl, Nat.le_of_ble_eq_true rfl, Nat.le_of_ble_eq_true rfl⟩ hPD hS 9 2 rfl rfl rfl [9, 10, 11, 12, 13, 14, 15, 16, 2] [0, 1, 3, 4, 5, 6, 7, 8] [0, 1, 16, 2, 3, 4, 5, 6, 7, 8, 9, 10, 11, 12, 13, 14, 15] (wN := (wX5 G h0 a0 f0 A0 ++ (wX6 G h1 a1 f1 A1 ++ (wX2 G h2 a2 q_7.2.2 q_7.2.1)))) rfl rfl rfl rfl rfl hl.1 (Nat.le_of_ble_eq_true rfl) dX5_tempt_65 (fun H locs hPD hS => ?_)
    obtain ⟨q_8, hq_8, h⟩ := ob2 h
    refine kVV (As := [.ref h1, .int p3, .int q_7.1]) (rest := []) C0 (kt_X5_pay l G h0 a0 h1 a1 f0 A0 f1 A1 p3 q_7.1 hq_8) gi_V_X5_112_X5_pay (n := 3) rfl (by decide +kernel) rfl ⟨rfl, rfl, Nat.le_of_ble_eq_true rfl, Nat.le_of_ble_eq_true rfl⟩ hPD hS 0 5 rfl rfl rfl [0, 1, 2, 3, 4, 5, 6, 7, 8] [9, 10, 11, 12, 13, 14, 15, 16] [8, 9, 10, 11, 12, 13, 14, 15, 16, 0, 1, 2, 3, 4, 5, 6, 7] (wN := (wX5 G h0 a0 q_8.1 A0 ++ (wX6 G h1 a1 f1 q_8.2 ++ (wX2 G h2 a2 q_7.2.2 q_7.2.1)))) rfl rfl rfl rfl rfl hl.1 (Nat.le_of_ble_eq_true rfl) dX5_tempt_68 (fun H locs hPD hS => ?_)
    refine lv_goto (tgt := 127) hx hb dX5_tempt_71 (by decide) ?_
    obtain rfl := Option.some.inj h
    exact eV C0 hPD.1 hPD.2 hS dX5_tempt_127
set_option maxRecDepth 100000 in
set_option maxHeartbeats 4000000 in
theorem kt_X5_tempt (l : Launch) (G : Gp) (h0 : Nat) (a0 : Nat → Nat) (h1 : Nat) (a1 : Nat → Nat) (h2 : Nat) (a2 : Nat → Nat) (f0 : Nat → Int32) (A0 : Nat → Nat → Int32) (f1 : Nat → Int32) (A1 : Nat → Nat → Int32) (f2 : Nat → Int32) (A2 : Nat → Nat → Int32) (p3 : Int32) : ∀ {r : (Nat → Int32) × (Nat → Nat → Int32) × (Nat → Int32) × (Nat → Nat → Int32) × (Nat → Int32)}, f5_tempt f0 A0 f1 A1 f2 A2 p3 = some r → CtrV l yX5_tempt cX5_tempt 6 none rmX5_tempt G [.ref h0, .ref h1, .ref h2, .int p3] (wX5 G h0 a0 f0 A0 ++ (wX6 G h1 a1 f1 A1 ++ (wX2 G h2 a2 f2 A2))) (wX5 G h0 a0 r.1 A0 ++ (wX6 G h1 a1 r.2.2.1 r.2.1 ++ (wX2 G h2 a2 r.2.2.2.2 r.2.2.2.1))) := by
  intro res h
  refine ctrV_of (cc := cX5_tempt) (maxL := 6) (ret := none) (by decide +kernel) rfl (Nat.le_of_ble_eq_true rfl) (fun p e s m below meth c DA C0 hP hD ls hl => ?_)
  have hPD : WD G DA (wX5 G h0 a0 f0 A0 ++ (wX6 G h1 a1 f1 A1 ++ (wX2 G h2 a2 f2 A2))) s.heap := ⟨hP, hD⟩
  have hS : va_S DA s.heap s.heap [] := va_S.rf
  have hl : lv_has ls 6 [(0, .ref h0), (1, .ref h1), (2, .ref h2), (3, .int p3)] := hl
  obtain ⟨hx, hb, hml, hown, hts⟩ := C0.1
  have hK := C0.2.2.2.1
  unfold f5_tempt at h
  refine lv_aload_n hx hb dX5_tempt_0 rfl (lv_at hl 2 rfl) ?_
  refine lv_aload_n hx hb dX5_tempt_1 rfl (lv_at hl 0 rfl) ?_
  refine va_get (D := G.1) (ci := 5) (v := .ref (a0 1)) (C := RX5) (T := TX5) (N := 4) hx hb hts inlX5 hown hK hPD.1 0 rfl rfl 1 (by decide) (hts _ gw_280) (fun _ h9 => h9) rfl dX5_tempt_2 ?_
  obtain ⟨q_1, hq_1, h⟩ := ob2 h
  refine kVI (As := [.ref (a0 1)]) (rest := []) C0 (kt_X2_isSafe l G h2 a2 (a0 1) f2 A2 8 (A0 1) (by decide) hq_1) gi_V_X5_100_X2_isSafe (n := 1) rfl (by decide +kernel) rfl ⟨rfl, rfl, Nat.le_of_ble_eq_true rfl, Nat.le_of_ble_eq_true rfl⟩ hPD hS 9 2 rfl rfl rfl [9, 10, 11, 12, 13, 14, 15, 16, 2] [0, 1, 3, 4, 5, 6, 7, 8] [0, 1, 16, 2, 3, 4, 5, 6, 7, 8, 9, 10, 11, 12, 13, 14, 15] (wN := (wX5 G h0 a0 f0 A0 ++ (wX6 G h1 a1 f1 A1 ++ (wX2 G h2 a2 q_1.2.2 q_1.2.1)))) rfl rfl rfl rfl rfl hl.1 (Nat.le_of_ble_eq_true rfl) dX5_tempt_5 (fun H locs hPD hS => ?_)
  refine lv_if_eq (tgt := 12) hx hb dX5_tempt_8 (by decide) (fun cc1 => ?_) (fun cc1 => ?_)
  · have h := (if_pos cc1).symm.trans h
    refine lv_aload_n hx hb dX5_tempt_12 rfl (lv_at hl 2 rfl) ?_
    refine lv_bipush (v := 114) hx hb dX5_tempt_13 (by decide) ?_
    refine lv_bipush (v := 10) hx hb dX5_tempt_15 (by decide) ?_
    refine lv_aload_n hx hb dX5_tempt_17 rfl (lv_at hl 0 rfl) ?_
    refine va_get (D := G.1) (ci := 5) (v := .ref (a0 1)) (C := RX5) (T := TX5) (N := 4) hx hb hts inlX5 hown hK hPD.1 0 rfl rfl 1 (by decide) (hts _ gw_280) (fun _ h9 => h9) rfl dX5_tempt_18 ?_
    obtain ⟨q_2, hq_2, h⟩ := ob2 h
    refine kVI (As := [.int 114, .int 10, .ref (a0 1)]) (rest := []) C0 (kt_X2_rate l G h2 a2 (a0 1) q_1.2.2 q_1.2.1 8 (A0 1) 114 10 (by decide) hq_2) gi_V_X5_104_X2_rate (n := 3) rfl (by decide +kernel) rfl ⟨rfl, rfl, Nat.le_of_ble_eq_true rfl, Nat.le_of_ble_eq_true rfl⟩ hPD hS 9 2 rfl rfl rfl [9, 10, 11, 12, 13, 14, 15, 16, 2] [0, 1, 3, 4, 5, 6, 7, 8] [0, 1, 16, 2, 3, 4, 5, 6, 7, 8, 9, 10, 11, 12, 13, 14, 15] (wN := (wX5 G h0 a0 f0 A0 ++ (wX6 G h1 a1 f1 A1 ++ (wX2 G h2 a2 q_2.2.2 q_2.2.1)))) rfl rfl rfl rfl rfl hl.1 (Nat.le_of_ble_eq_true rfl) dX5_tempt_21 (fun H locs hPD hS => ?_)
    refine lv_istore (lv' := [(4, .int q_2.1), (0, .ref h0), (1, .ref h1), (2, .ref h2), (3, .int p3)]) hx hb dX5_tempt_24 hl (by decide) rfl (fun ls hl => ?_)
    refine lv_aload_n hx hb dX5_tempt_26 rfl (lv_at hl 2 rfl) ?_
    obtain ⟨q_3, hq_3, h⟩ := ob2 h
    refine kVI (As := []) (rest := []) C0 (kt_X6_draw l G h1 a1 f1 A1 hq_3) gi_V_X5_108_X6_draw (n := 0) rfl (by decide +kernel) rfl ⟨rfl, rfl, Nat.le_of_ble_eq_true rfl, Nat.le_of_ble_eq_true rfl⟩ hPD hS 3 6 rfl rfl rfl [3, 4, 5, 6, 7, 8] [0, 1, 2, 9, 10, 11, 12, 13, 14, 15, 16] [0, 1, 2, 11, 12, 13, 14, 15, 16, 3, 4, 5, 6, 7, 8, 9, 10] (wN := (wX5 G h0 a0 f0 A0 ++ (wX6 G h1 a1 q_3.2 A1 ++ (wX2 G h2 a2 q_2.2.2 q_2.2.1)))) rfl rfl rfl rfl rfl hl.1 (Nat.le_of_ble_eq_true rfl) dX5_tempt_27 (fun H locs hPD hS => ?_)
    refine lv_iload hx hb dX5_tempt_30 (lv_at hl 0 rfl) ?_
    refine lv_icmp_ge (tgt := 39) hx hb dX5_tempt_32 (by decide) (fun cc1 => ?_) (fun cc1 => ?_)
    · have h := (if_pos cc1).symm.trans h
      refine lv_iconst (v := 0) hx hb dX5_tempt_39 (by decide) ?_
      exact ww_f5_tempt_b40 C0 f0 A1 q_3.2 q_2.2.1 q_2.2.2 0 h _ _ _ hPD hS (lv_sub hl [1, 2, 3, 4] rfl)
    · have h := (if_neg cc1).symm.trans h
      refine lv_iconst (v := 1) hx hb dX5_tempt_35 (by decide) ?_
      refine lv_goto (tgt := 40) hx hb dX5_tempt_36 (by decide) ?_
      exact ww_f5_tempt_b40 C0 f0 A1 q_3.2 q_2.2.1 q_2.2.2 1 h _ _ _ hPD hS (lv_sub hl [1, 2, 3, 4] rfl)
  · have h := (if_neg cc1).symm.trans h
    obtain rfl := Option.some.inj h
    exact eV C0 hPD.1 hPD.2 hS dX5_tempt_11
abbrev rmX5_passes : Room := { frames := 5, cells := 0, slots := 0, locals := 113 }
set_option maxRecDepth 100000 in
set_option maxHeartbeats 4000000 in
theorem ww_f5_passes_b38  (C0 : Cx cX5_passes 6 (some .boolean) RX5 p s m args meth c G DA) {h0 : Nat} {a0 : Nat → Nat} {h1 : Nat} {a1 : Nat → Nat} {h2 : Nat} {a2 : Nat → Nat} {h3 : Nat} {a3 : Nat → Nat} {q4 : Nat} {g4 : Nat → Nat} {aB4 : Nat → Nat → Nat} {f3 : Nat → Int32} {A3 : Nat → Nat → Int32} {fB4 : Nat → Nat → Int32} {AB4 : Nat → Nat → Nat → Int32}  {k38 : (Nat → Nat → Int32) → (Nat → Int32) → (Nat → Nat → Int32) → (Nat → Int32) → (Nat → Nat → Int32) → (Nat → Int32) → Int32 → Option (Int32 × (Nat → Nat → Int32) × (Nat → Int32) × (Nat → Nat → Int32) × (Nat → Int32) × (Nat → Nat → Int32) × (Nat → Int32))} {res : Int32 × (Nat → Nat → Int32) × (Nat → Int32) × (Nat → Nat → Int32) × (Nat → Int32) × (Nat → Nat → Int32) × (Nat → Int32)}  (hk38 : ∀ (A0 : Nat → Nat → Int32) (f0 : Nat → Int32) (A1 : Nat → Nat → Int32) (f1 : Nat → Int32) (A2 : Nat → Nat → Int32) (f2 : Nat → Int32) (l5 : Int32), k38 A0 f0 A1 f1 A2 f2 l5 = some res → ∀ (H : Heap) (locs : List Loc) (ls : Array Slot), WD G DA (wX5 G h0 a0 f0 A0 ++ (wX6 G h1 a1 f1 A1 ++ (wX2 G h2 a2 f2 A2 ++ (wX1 G h3 a3 f3 A3 ++ (wB G q4 g4 aB4 fB4 AB4))))) H → va_S DA s.heap H locs → lv_has ls 6 [(0, .ref h0), (1, .ref h1), (2, .ref h2), (3, .ref h3), (4, .ref q4), (5, .int l5)] → W p l e rmX5_passes s m args below meth c H locs 0 0 (MQ below (QI G DA res.1 (wX5 G h0 a0 res.2.2.1 res.2.1 ++ (wX6 G h1 a1 res.2.2.2.2.1 res.2.2.2.1 ++ (wX2 G h2 a2 res.2.2.2.2.2.2 res.2.2.2.2.2.1 ++ (wX1 G h3 a3 f3 A3 ++ (wB G q4 g4 aB4 fB4 AB4)))))) args s 0 0 DA) (F0 m 38 ls [])) : ∀ (A0 : Nat → Nat → Int32) (f0 : Nat → Int32) (A1 : Nat → Nat → Int32) (f1 : Nat → Int32) (A2 : Nat → Nat → Int32) (f2 : Nat → Int32) (l5 : Int32), f5_passes_b38 f3 A3 fB4 AB4  k38 A0 f0 A1 f1 A2 f2 l5 = some res → ∀ (H : Heap) (locs : List Loc) (ls : Array Slot), WD G DA (wX5 G h0 a0 f0 A0 ++ (wX6 G h1 a1 f1 A1 ++ (wX2 G h2 a2 f2 A2 ++ (wX1 G h3 a3 f3 A3 ++ (wB G q4 g4 aB4 fB4 AB4))))) H → va_S DA s.heap H locs → lv_has ls 6 [(0, .ref h0), (1, .ref h1), (2, .ref h2), (3, .ref h3), (4, .ref q4), (5, .int l5)] → W p l e rmX5_passes s m args below meth c H locs 0 0 (MQ below (QI G DA res.1 (wX5 G h0 a0 res.2.2.1 res.2.1 ++ (wX6 G h1 a1 res.2.2.2.2.1 res.2.2.2.1 ++ (wX2 G h2 a2 res.2.2.2.2.2.2 res.2.2.2.2.2.1 ++ (wX1 G h3 a3 f3 A3 ++ (wB G q4 g4 aB4 fB4 AB4)))))) args s 0 0 DA) (F0 m 38 ls []) := by
  obtain ⟨hx, hb, hml, hown, hts⟩ := C0.1
  have hK := C0.2.2.2.1
  intro A0 f0 A1 f1 A2 f2 l5 h _ _ _ hPD hS hl
  unfold f5_passes_b38 at h
  refine lv_iload hx hb dX5_passes_38 (lv_at hl 5 rfl) ?_
  refine lv_bipush (v := 16) hx hb dX5_passes_40 (by decide) ?_
  refine lv_icmp_ge (tgt := 84) hx hb dX5_passes_42 (by decide) (fun cc1 => ?_) (fun cc1 => ?_)
  · have h := (if_pos cc1).symm.trans h
    refine lv_aload_n hx hb dX5_passes_84 rfl (lv_at hl 1 rfl) ?_
    refine lv_dup hx hb dX5_passes_85 rfl ?_
    refine va_get (D := G.1) (ci := 6) (v := .int (f1 8)) (C := RX6) (T := TX6) (N := 10) hx hb hts inlX6 hown hK hPD.1 3 rfl rfl 8 (by decide) (hts _ gw_269) (fun _ h9 => h9) rfl dX5_passes_86 ?_
    refine lv_iconst (v := 1) hx hb dX5_passes_89 (by decide) ?_
    refine lv_iadd hx hb dX5_passes_90 ?_
    refine va_put (D := G.1) (ci := 6) (v := .int ((f1 8) + 1)) (ty := .int) (C := RX6) (T := TX6) (N := 10) hx hb hts inlX6 tyX6 tyX6_ok nmX6 hown hK hPD.1 hPD.2 hS 3 rfl rfl 8 (by decide) (hts _ gw_269) (fun _ h9 => h9) rfl (by decide +kernel) rfl rfl (Nat.le_of_ble_eq_true rfl) dX5_passes_91 (fun H locs hP hD hS => ?_)
    obtain ⟨f1_5, ef1_5, h⟩ := lvl h
    have hPD : WD G DA (wX5 G h0 a0 f0 A0 ++ (wX6 G h1 a1 f1_5 A1 ++ (wX2 G h2 a2 f2 A2 ++ (wX1 G h3 a3 f3 A3 ++ (wB G q4 g4 aB4 fB4 AB4))))) H := by rw [ef1_5]; exact ⟨hP, hD⟩
    clear ef1_5 hP hD
    refine lv_iconst (v := 1) hx hb dX5_passes_94 (by decide) ?_
    obtain rfl := Option.some.inj h
    exact eZ C0 hPD.1 hPD.2 hS rfl rfl dX5_passes_95
  · have h := (if_neg cc1).symm.trans h
    refine lv_aload_n hx hb dX5_passes_45 rfl (lv_at hl 3 rfl) ?_
    refine lv_iload hx hb dX5_passes_46 (lv_at hl 5 rfl) ?_
    refine kVI (As := [.int l5]) (rest := []) C0 (kt_X1_isTold l G h3 a3 f3 A3 l5) gi_V_X5_40_X1_isTold (n := 1) rfl (by decide +kernel) rfl ⟨rfl, rfl, Nat.le_of_ble_eq_true rfl, Nat.le_of_ble_eq_true rfl⟩ hPD hS 17 1 rfl rfl rfl [17, 18, 19, 20] [0, 1, 2, 3, 4, 5, 6, 7, 8, 9, 10, 11, 12, 13, 14, 15, 16, 21, 22, 23, 24, 25, 26, 27, 28, 29, 30, 31, 32, 33, 34, 35, 36, 37] [0, 1, 2, 3, 4, 5, 6, 7, 8, 9, 10, 11, 12, 13, 14, 15, 16, 34, 35, 36, 37, 17, 18, 19, 20, 21, 22, 23, 24, 25, 26, 27, 28, 29, 30, 31, 32, 33] (wN := (wX5 G h0 a0 f0 A0 ++ (wX6 G h1 a1 f1 A1 ++ (wX2 G h2 a2 f2 A2 ++ (wX1 G h3 a3 f3 A3 ++ (wB G q4 g4 aB4 fB4 AB4)))))) rfl rfl rfl rfl rfl hl.1 (Nat.le_of_ble_eq_true rfl) dX5_passes_48 (fun H locs hPD hS => ?_)
    refine lv_if_eq (tgt := 78) hx hb dX5_passes_51 (by decide) (fun cc1 => ?_) (fun cc1 => ?_)
    · have h := (if_pos cc1).symm.trans h
      refine lv_iinc (v := l5 + 1) (lv' := [(5, .int (l5 + 1)), (0, .ref h0), (1, .ref h1), (2, .ref h2), (3, .ref h3), (4, .ref q4)]) hx hb dX5_passes_78 hl (k := 5) rfl rfl (by decide) rfl (fun ls hl => ?_)
      refine lv_goto (tgt := 38) hx hb dX5_passes_81 (by decide) ?_
      exact hk38 A0 f0 A1 f1 A2 f2 (l5 + 1) h _ _ _ hPD hS (lv_sub hl [1, 2, 3, 4, 5, 0] rfl)
    · have h := (if_neg cc1).symm.trans h
      refine lv_aload_n hx hb dX5_passes_54 rfl (lv_at hl 0 rfl) ?_
      refine lv_aload_n hx hb dX5_passes_55 rfl (lv_at hl 1 rfl) ?_
      refine lv_iload hx hb dX5_passes_56 (lv_at hl 5 rfl) ?_
      refine lv_aload_n hx hb dX5_passes_58 rfl (lv_at hl 3 rfl) ?_
      refine va_get (D := G.1) (ci := 1) (v := .ref (a3 1)) (C := RX1) (T := TX1) (N := 4) hx hb hts inlX1 hown hK hPD.1 17 rfl rfl 1 (by decide) (hts _ gw_275) (fun _ h9 => h9) rfl dX5_passes_59 ?_
      refine lv_iload hx hb dX5_passes_62 (lv_at hl 5 rfl) ?_
      refine kNI (As := [.ref (a3 1), .int l5]) (rest := [.int l5, .ref h1, .ref h0]) C0 (kt_X9_at l G (a3 1) 16 (A3 1) l5 (by decide)) gi_U_X9_at (host := "IdleCrimes") (index := 49) (List.mem_of_getElem? (i := 24) rfl) gw_6 gw_7 (n := 2) rfl (by decide +kernel) ⟨rfl, rfl, Nat.le_of_ble_eq_true rfl, Nat.le_of_ble_eq_true rfl⟩ hPD hS [18] [0, 1, 2, 3, 4, 5, 6, 7, 8, 9, 10, 11, 12, 13, 14, 15, 16, 17, 19, 20, 21, 22, 23, 24, 25, 26, 27, 28, 29, 30, 31, 32, 33, 34, 35, 36, 37] [0, 1, 2, 3, 4, 5, 6, 7, 8, 9, 10, 11, 12, 13, 14, 15, 16, 17, 37, 18, 19, 20, 21, 22, 23, 24, 25, 26, 27, 28, 29, 30, 31, 32, 33, 34, 35, 36] (wN := (wX5 G h0 a0 f0 A0 ++ (wX6 G h1 a1 f1 A1 ++ (wX2 G h2 a2 f2 A2 ++ (wX1 G h3 a3 f3 A3 ++ (wB G q4 g4 aB4 fB4 AB4)))))) rfl rfl rfl rfl rfl hl.1 (Nat.le_of_ble_eq_true rfl) dX5_passes_64 (fun H locs hPD hS => ?_)
      obtain ⟨q_6, hq_6, h⟩ := ob2 h
      refine kVV (As := [.ref h1, .int l5, .int (f9_at 16 (A3 1) l5)]) (rest := []) C0 (kt_X5_know l G h0 a0 h1 a1 f0 A0 f1 A1 l5 (f9_at 16 (A3 1) l5) hq_6) gi_V_X5_53_X5_know (n := 3) rfl (by decide +kernel) rfl ⟨rfl, rfl, Nat.le_of_ble_eq_true rfl, Nat.le_of_ble_eq_true rfl⟩ hPD hS 0 5 rfl rfl rfl [0, 1, 2, 3, 4, 5, 6, 7, 8] [9, 10, 11, 12, 13, 14, 15, 16, 17, 18, 19, 20, 21, 22, 23, 24, 25, 26, 27, 28, 29, 30, 31, 32, 33, 34, 35, 36, 37] [29, 30, 31, 32, 33, 34, 35, 36, 37, 0, 1, 2, 3, 4, 5, 6, 7, 8, 9, 10, 11, 12, 13, 14, 15, 16, 17, 18, 19, 20, 21, 22, 23, 24, 25, 26, 27, 28] (wN := (wX5 G h0 a0 f0 q_6 ++ (wX6 G h1 a1 f1 A1 ++ (wX2 G h2 a2 f2 A2 ++ (wX1 G h3 a3 f3 A3 ++ (wB G q4 g4 aB4 fB4 AB4)))))) rfl rfl rfl rfl rfl hl.1 (Nat.le_of_ble_eq_true rfl) dX5_passes_67 (fun H locs hPD hS => ?_)
      refine lv_aload_n hx hb dX5_passes_70 rfl (lv_at hl 0 rfl) ?_
      refine lv_aload_n hx hb dX5_passes_71 rfl (lv_at hl 1 rfl) ?_
      refine lv_aload_n hx hb dX5_passes_72 rfl (lv_at hl 2 rfl) ?_
      refine lv_iload hx hb dX5_passes_73 (lv_at hl 5 rfl) ?_
      obtain ⟨q_7, hq_7, h⟩ := ob2 h
      refine kVV (As := [.ref h1, .ref h2, .int l5]) (rest := []) C0 (kt_X5_tempt l G h0 a0 h1 a1 h2 a2 f0 q_6 f1 A1 f2 A2 l5 hq_7) gi_V_X5_57_X5_tempt (n := 3) rfl (by decide +kernel) rfl ⟨rfl, rfl, Nat.le_of_ble_eq_true rfl, Nat.le_of_ble_eq_true rfl⟩ hPD hS 0 5 rfl rfl rfl [0, 1, 2, 3, 4, 5, 6, 7, 8, 9, 10, 11, 12, 13, 14, 15, 16] [17, 18, 19, 20, 21, 22, 23, 24, 25, 26, 27, 28, 29, 30, 31, 32, 33, 34, 35, 36, 37] [21, 22, 23, 24, 25, 26, 27, 28, 29, 30, 31, 32, 33, 34, 35, 36, 37, 0, 1, 2, 3, 4, 5, 6, 7, 8, 9, 10, 11, 12, 13, 14, 15, 16, 17, 18, 19, 20] (wN := (wX5 G h0 a0 q_7.1 q_6 ++ (wX6 G h1 a1 q_7.2.2.1 q_7.2.1 ++ (wX2 G h2 a2 q_7.2.2.2.2 q_7.2.2.2.1 ++ (wX1 G h3 a3 f3 A3 ++ (wB G q4 g4 aB4 fB4 AB4)))))) rfl rfl rfl rfl rfl hl.1 (Nat.le_of_ble_eq_true rfl) dX5_passes_75 (fun H locs hPD hS => ?_)
      refine lv_iinc (v := l5 + 1) (lv' := [(5, .int (l5 + 1)), (0, .ref h0), (1, .ref h1), (2, .ref h2), (3, .ref h3), (4, .ref q4)]) hx hb dX5_passes_78 hl (k := 5) rfl rfl (by decide) rfl (fun ls hl => ?_)
      refine lv_goto (tgt := 38) hx hb dX5_passes_81 (by decide) ?_
      exact hk38 q_6 q_7.1 q_7.2.1 q_7.2.2.1 q_7.2.2.2.1 q_7.2.2.2.2 (l5 + 1) h _ _ _ hPD hS (lv_sub hl [1, 2, 3, 4, 5, 0] rfl)
set_option maxRecDepth 100000 in
set_option maxHeartbeats 4000000 in
theorem ww_f5_passes_l38  (C0 : Cx cX5_passes 6 (some .boolean) RX5 p s m args meth c G DA) {h0 : Nat} {a0 : Nat → Nat} {h1 : Nat} {a1 : Nat → Nat} {h2 : Nat} {a2 : Nat → Nat} {h3 : Nat} {a3 : Nat → Nat} {q4 : Nat} {g4 : Nat → Nat} {aB4 : Nat → Nat → Nat} {f3 : Nat → Int32} {A3 : Nat → Nat → Int32} {fB4 : Nat → Nat → Int32} {AB4 : Nat → Nat → Nat → Int32}   {res : Int32 × (Nat → Nat → Int32) × (Nat → Int32) × (Nat → Nat → Int32) × (Nat → Int32) × (Nat → Nat → Int32) × (Nat → Int32)}  : ∀ (n : Nat) (A0 : Nat → Nat → Int32) (f0 : Nat → Int32) (A1 : Nat → Nat → Int32) (f1 : Nat → Int32) (A2 : Nat → Nat → Int32) (f2 : Nat → Int32) (l5 : Int32), f5_passes_l38 f3 A3 fB4 AB4  n A0 f0 A1 f1 A2 f2 l5 = some res → ∀ (H : Heap) (locs : List Loc) (ls : Array Slot), WD G DA (wX5 G h0 a0 f0 A0 ++ (wX6 G h1 a1 f1 A1 ++ (wX2 G h2 a2 f2 A2 ++ (wX1 G h3 a3 f3 A3 ++ (wB G q4 g4 aB4 fB4 AB4))))) H → va_S DA s.heap H locs → lv_has ls 6 [(0, .ref h0), (1, .ref h1), (2, .ref h2), (3, .ref h3), (4, .ref q4), (5, .int l5)] → W p l e rmX5_passes s m args below meth c H locs 0 0 (MQ below (QI G DA res.1 (wX5 G h0 a0 res.2.2.1 res.2.1 ++ (wX6 G h1 a1 res.2.2.2.2.1 res.2.2.2.1 ++ (wX2 G h2 a2 res.2.2.2.2.2.2 res.2.2.2.2.2.1 ++ (wX1 G h3 a3 f3 A3 ++ (wB G q4 g4 aB4 fB4 AB4)))))) args s 0 0 DA) (F0 m 38 ls []) := by
  intro n
  induction n with
  | zero => intro A0 f0 A1 f1 A2 f2 l5 h; cases h
  | succ n ih => intro A0 f0 A1 f1 A2 f2 l5 h; exact ww_f5_passes_b38 C0  ih A0 f0 A1 f1 A2 f2 l5 h
set_option maxRecDepth 100000 in
set_option maxHeartbeats 4000000 in
theorem kt_X5_passes (l : Launch) (G : Gp) (h0 : Nat) (a0 : Nat → Nat) (h1 : Nat) (a1 : Nat → Nat) (h2 : Nat) (a2 : Nat → Nat) (h3 : Nat) (a3 : Nat → Nat) (q4 : Nat) (g4 : Nat → Nat) (aB4 : Nat → Nat → Nat) (f0 : Nat → Int32) (A0 : Nat → Nat → Int32) (f1 : Nat → Int32) (A1 : Nat → Nat → Int32) (f2 : Nat → Int32) (A2 : Nat → Nat → Int32) (f3 : Nat → Int32) (A3 : Nat → Nat → Int32) (fB4 : Nat → Nat → Int32) (AB4 : Nat → Nat → Nat → Int32) : ∀ {r : Int32 × (Nat → Nat → Int32) × (Nat → Int32) × (Nat → Nat → Int32) × (Nat → Int32) × (Nat → Nat → Int32) × (Nat → Int32)}, f5_passes f0 A0 f1 A1 f2 A2 f3 A3 fB4 AB4 = some r → CtrI l yX5_passes cX5_passes 6 (some .boolean) rmX5_passes G [.ref h0, .ref h1, .ref h2, .ref h3, .ref q4] (wX5 G h0 a0 f0 A0 ++ (wX6 G h1 a1 f1 A1 ++ (wX2 G h2 a2 f2 A2 ++ (wX1 G h3 a3 f3 A3 ++ (wB G q4 g4 aB4 fB4 AB4))))) r.1 (wX5 G h0 a0 r.2.2.1 r.2.1 ++ (wX6 G h1 a1 r.2.2.2.2.1 r.2.2.2.1 ++ (wX2 G h2 a2 r.2.2.2.2.2.2 r.2.2.2.2.2.1 ++ (wX1 G h3 a3 f3 A3 ++ (wB G q4 g4 aB4 fB4 AB4))))) := by
  intro res h
  refine ctrI_of (cc := cX5_passes) (maxL := 6) (ret := (some .boolean)) (by decide +kernel) rfl (Nat.le_of_ble_eq_true rfl) (fun p e s m below meth c DA C0 hP hD ls hl => ?_)
  have hPD : WD G DA (wX5 G h0 a0 f0 A0 ++ (wX6 G h1 a1 f1 A1 ++ (wX2 G h2 a2 f2 A2 ++ (wX1 G h3 a3 f3 A3 ++ (wB G q4 g4 aB4 fB4 AB4))))) s.heap := ⟨hP, hD⟩
  have hS : va_S DA s.heap s.heap [] := va_S.rf
  have hl : lv_has ls 6 [(0, .ref h0), (1, .ref h1), (2, .ref h2), (3, .ref h3), (4, .ref q4)] := hl
  obtain ⟨hx, hb, hml, hown, hts⟩ := C0.1
  have hK := C0.2.2.2.1
  unfold f5_passes at h
  refine lv_aload_n hx hb dX5_passes_0 rfl (lv_at hl 0 rfl) ?_
  refine lv_iconst (v := 0) hx hb dX5_passes_1 (by decide) ?_
  refine va_put (D := G.1) (ci := 5) (v := .int 0) (ty := .int) (C := RX5) (T := TX5) (N := 4) hx hb hts inlX5 tyX5 tyX5_ok nmX5 hown hK hPD.1 hPD.2 hS 0 rfl rfl 2 (by decide) (hts _ gw_303) (fun _ h9 => h9) rfl (by decide +kernel) rfl rfl (Nat.le_of_ble_eq_true rfl) dX5_passes_2 (fun H locs hP hD hS => ?_)
  obtain ⟨f0_1, ef0_1, h⟩ := lvl h
  have hPD : WD G DA (wX5 G h0 a0 f0_1 A0 ++ (wX6 G h1 a1 f1 A1 ++ (wX2 G h2 a2 f2 A2 ++ (wX1 G h3 a3 f3 A3 ++ (wB G q4 g4 aB4 fB4 AB4))))) H := by rw [ef0_1]; exact ⟨hP, hD⟩
  clear ef0_1 hP hD
  refine lv_aload_n hx hb dX5_passes_5 rfl (lv_at hl 0 rfl) ?_
  refine lv_iconst (v := 0) hx hb dX5_passes_6 (by decide) ?_
  refine va_put (D := G.1) (ci := 5) (v := .int 0) (ty := .int) (C := RX5) (T := TX5) (N := 4) hx hb hts inlX5 tyX5 tyX5_ok nmX5 hown hK hPD.1 hPD.2 hS 0 rfl rfl 3 (by decide) (hts _ gw_290) (fun _ h9 => h9) rfl (by decide +kernel) rfl rfl (Nat.le_of_ble_eq_true rfl) dX5_passes_7 (fun H locs hP hD hS => ?_)
  obtain ⟨f0_2, ef0_2, h⟩ := lvl h
  have hPD : WD G DA (wX5 G h0 a0 f0_2 A0 ++ (wX6 G h1 a1 f1 A1 ++ (wX2 G h2 a2 f2 A2 ++ (wX1 G h3 a3 f3 A3 ++ (wB G q4 g4 aB4 fB4 AB4))))) H := by rw [ef0_2]; exact ⟨hP, hD⟩
  clear ef0_2 hP hD
  refine lv_aload_n hx hb dX5_passes_10 rfl (lv_at hl 1 rfl) ?_
  refine va_get (D := G.1) (ci := 6) (v := .int (f1 8)) (C := RX6) (T := TX6) (N := 10) hx hb hts inlX6 hown hK hPD.1 3 rfl rfl 8 (by decide) (hts _ gw_269) (fun _ h9 => h9) rfl dX5_passes_11 ?_
  refine lv_sipush (v := 9999) hx hb dX5_passes_14 (by decide) ?_
  refine lv_icmp_lt (tgt := 22) hx hb dX5_passes_17 (by decide) (fun cc1 => ?_) (fun cc1 => ?_)
  · have h := (if_pos cc1).symm.trans h
    refine lv_aload_n hx hb dX5_passes_22 rfl (lv_at hl 1 rfl) ?_
    refine lv_aload_n hx hb dX5_passes_23 rfl (lv_at hl 3 rfl) ?_
    refine lv_aload hx hb dX5_passes_24 (lv_at hl 4 rfl) ?_
    obtain ⟨q_3, hq_3, h⟩ := ob2 h
    refine kSV (As := [.ref h1, .ref h3, .ref q4]) (rest := []) C0 (kt_X5_walk l G h1 a1 h3 a3 q4 g4 aB4 f1 A1 f3 A3 fB4 AB4 hq_3) gi_S_X5_32_X5_walk (n := 3) rfl (by decide +kernel) ⟨rfl, rfl, Nat.le_of_ble_eq_true rfl, Nat.le_of_ble_eq_true rfl⟩ hPD hS [3, 4, 5, 6, 7, 8, 17, 18, 19, 20, 21, 22, 23, 24, 25, 26, 27, 28, 29, 30, 31, 32, 33, 34, 35, 36, 37] [0, 1, 2, 9, 10, 11, 12, 13, 14, 15, 16] [0, 1, 2, 11, 12, 13, 14, 15, 16, 3, 4, 5, 6, 7, 8, 9, 10, 17, 18, 19, 20, 21, 22, 23, 24, 25, 26, 27, 28, 29, 30, 31, 32, 33, 34, 35, 36, 37] (wN := (wX5 G h0 a0 f0_2 A0 ++ (wX6 G h1 a1 f1 q_3 ++ (wX2 G h2 a2 f2 A2 ++ (wX1 G h3 a3 f3 A3 ++ (wB G q4 g4 aB4 fB4 AB4)))))) rfl rfl rfl rfl rfl hl.1 (Nat.le_of_ble_eq_true rfl) dX5_passes_26 (fun H locs hPD hS => ?_)
    refine lv_aload_n hx hb dX5_passes_29 rfl (lv_at hl 0 rfl) ?_
    refine lv_aload_n hx hb dX5_passes_30 rfl (lv_at hl 1 rfl) ?_
    refine lv_aload_n hx hb dX5_passes_31 rfl (lv_at hl 3 rfl) ?_
    obtain ⟨q_4, hq_4, h⟩ := ob2 h
    refine kVV (As := [.ref h1, .ref h3]) (rest := []) C0 (kt_X5_lookAround l G h0 a0 h1 a1 h3 a3 f0_2 A0 f1 q_3 f3 A3 hq_4) gi_V_X5_36_X5_lookAround (n := 2) rfl (by decide +kernel) rfl ⟨rfl, rfl, Nat.le_of_ble_eq_true rfl, Nat.le_of_ble_eq_true rfl⟩ hPD hS 0 5 rfl rfl rfl [0, 1, 2, 3, 4, 5, 6, 7, 8, 17, 18, 19, 20] [9, 10, 11, 12, 13, 14, 15, 16, 21, 22, 23, 24, 25, 26, 27, 28, 29, 30, 31, 32, 33, 34, 35, 36, 37] [25, 26, 27, 28, 29, 30, 31, 32, 33, 0, 1, 2, 3, 4, 5, 6, 7, 34, 35, 36, 37, 8, 9, 10, 11, 12, 13, 14, 15, 16, 17, 18, 19, 20, 21, 22, 23, 24] (wN := (wX5 G h0 a0 f0_2 q_4.1 ++ (wX6 G h1 a1 f1 q_4.2 ++ (wX2 G h2 a2 f2 A2 ++ (wX1 G h3 a3 f3 A3 ++ (wB G q4 g4 aB4 fB4 AB4)))))) rfl rfl rfl rfl rfl hl.1 (Nat.le_of_ble_eq_true rfl) dX5_passes_32 (fun H locs hPD hS => ?_)
    refine lv_iconst (v := 0) hx hb dX5_passes_35 (by decide) ?_
    refine lv_istore (lv' := [(5, .int 0), (0, .ref h0), (1, .ref h1), (2, .ref h2), (3, .ref h3), (4, .ref q4)]) hx hb dX5_passes_36 hl (by decide) rfl (fun ls hl => ?_)
    exact ww_f5_passes_l38 C0 NF q_4.1 f0_2 q_4.2 f1 A2 f2 0 h _ _ _ hPD hS (lv_sub hl [1, 2, 3, 4, 5, 0] rfl)
  · have h := (if_neg cc1).symm.trans h
    refine lv_iconst (v := 0) hx hb dX5_passes_20 (by decide) ?_
    obtain rfl := Option.some.inj h
    exact eZ C0 hPD.1 hPD.2 hS rfl rfl dX5_passes_21
abbrev rmX6_copy : Room := { frames := 1, cells := 0, slots := 0, locals := 22 }
set_option maxRecDepth 100000 in
set_option maxHeartbeats 4000000 in
theorem ww_f6_copy_b64  (C0 : Cx cX6_copy 3 none RX6 p s m args meth c G DA) {h0 : Nat} {a0 : Nat → Nat} {h1 : Nat} {a1 : Nat → Nat} {f1 : Nat → Int32} {A1 : Nat → Nat → Int32}  {k64 : (Nat → Nat → Int32) → (Nat → Int32) → Int32 → Option ((Nat → Nat → Int32) × (Nat → Int32))} {res : (Nat → Nat → Int32) × (Nat → Int32)}  (hk64 : ∀ (A0 : Nat → Nat → Int32) (f0 : Nat → Int32) (l2 : Int32), k64 A0 f0 l2 = some res → ∀ (H : Heap) (locs : List Loc) (ls : Array Slot), WD G DA (wX6 G h0 a0 f0 A0 ++ (wX6 G h1 a1 f1 A1)) H → va_S DA s.heap H locs → lv_has ls 3 [(0, .ref h0), (1, .ref h1), (2, .int l2)] → W p l e rmX6_copy s m args below meth c H locs 0 0 (MQ below (QV G DA (wX6 G h0 a0 res.2 res.1 ++ (wX6 G h1 a1 f1 A1))) args s 0 0 DA) (F0 m 64 ls [])) : ∀ (A0 : Nat → Nat → Int32) (f0 : Nat → Int32) (l2 : Int32), f6_copy_b64 f1 A1  k64 A0 f0 l2 = some res → ∀ (H : Heap) (locs : List Loc) (ls : Array Slot), WD G DA (wX6 G h0 a0 f0 A0 ++ (wX6 G h1 a1 f1 A1)) H → va_S DA s.heap H locs → lv_has ls 3 [(0, .ref h0), (1, .ref h1), (2, .int l2)] → W p l e rmX6_copy s m args below meth c H locs 0 0 (MQ below (QV G DA (wX6 G h0 a0 res.2 res.1 ++ (wX6 G h1 a1 f1 A1))) args s 0 0 DA) (F0 m 64 ls []) := by
  obtain ⟨hx, hb, hml, hown, hts⟩ := C0.1
  have hK := C0.2.2.2.1
  intro A0 f0 l2 h _ _ _ hPD hS hl
  unfold f6_copy_b64 at h
  refine lv_iload_n hx hb dX6_copy_64 rfl (lv_at hl 2 rfl) ?_
  refine lv_bipush (v := 8) hx hb dX6_copy_65 (by decide) ?_
  refine lv_icmp_ge (tgt := 108) hx hb dX6_copy_67 (by decide) (fun cc1 => ?_) (fun cc1 => ?_)
  · have h := (if_pos cc1).symm.trans h
    refine lv_aload_n hx hb dX6_copy_108 rfl (lv_at hl 0 rfl) ?_
    refine lv_aload_n hx hb dX6_copy_109 rfl (lv_at hl 1 rfl) ?_
    refine va_get (D := G.1) (ci := 6) (v := .int (f1 5)) (C := RX6) (T := TX6) (N := 10) hx hb hts inlX6 hown hK hPD.1 6 rfl rfl 5 (by decide) (hts _ gw_263) (fun _ h9 => h9) rfl dX6_copy_110 ?_
    refine va_put (D := G.1) (ci := 6) (v := .int (f1 5)) (ty := .int) (C := RX6) (T := TX6) (N := 10) hx hb hts inlX6 tyX6 tyX6_ok nmX6 hown hK hPD.1 hPD.2 hS 0 rfl rfl 5 (by decide) (hts _ gw_263) (fun _ h9 => h9) rfl (by decide +kernel) rfl rfl (Nat.le_of_ble_eq_true rfl) dX6_copy_113 (fun H locs hP hD hS => ?_)
    obtain ⟨f0_1, ef0_1, h⟩ := lvl h
    have hPD : WD G DA (wX6 G h0 a0 f0_1 A0 ++ (wX6 G h1 a1 f1 A1)) H := by rw [ef0_1]; exact ⟨hP, hD⟩
    clear ef0_1 hP hD
    refine lv_aload_n hx hb dX6_copy_116 rfl (lv_at hl 0 rfl) ?_
    refine lv_aload_n hx hb dX6_copy_117 rfl (lv_at hl 1 rfl) ?_
    refine va_get (D := G.1) (ci := 6) (v := .int (f1 6)) (C := RX6) (T := TX6) (N := 10) hx hb hts inlX6 hown hK hPD.1 6 rfl rfl 6 (by decide) (hts _ gw_325) (fun _ h9 => h9) rfl dX6_copy_118 ?_
    refine va_put (D := G.1) (ci := 6) (v := .int (f1 6)) (ty := .int) (C := RX6) (T := TX6) (N := 10) hx hb hts inlX6 tyX6 tyX6_ok nmX6 hown hK hPD.1 hPD.2 hS 0 rfl rfl 6 (by decide) (hts _ gw_325) (fun _ h9 => h9) rfl (by decide +kernel) rfl rfl (Nat.le_of_ble_eq_true rfl) dX6_copy_121 (fun H locs hP hD hS => ?_)
    obtain ⟨f0_2, ef0_2, h⟩ := lvl h
    have hPD : WD G DA (wX6 G h0 a0 f0_2 A0 ++ (wX6 G h1 a1 f1 A1)) H := by rw [ef0_2]; exact ⟨hP, hD⟩
    clear ef0_2 hP hD
    refine lv_aload_n hx hb dX6_copy_124 rfl (lv_at hl 0 rfl) ?_
    refine lv_aload_n hx hb dX6_copy_125 rfl (lv_at hl 1 rfl) ?_
    refine va_get (D := G.1) (ci := 6) (v := .int (f1 7)) (C := RX6) (T := TX6) (N := 10) hx hb hts inlX6 hown hK hPD.1 6 rfl rfl 7 (by decide) (hts _ gw_326) (fun _ h9 => h9) rfl dX6_copy_126 ?_
    refine va_put (D := G.1) (ci := 6) (v := .int (f1 7)) (ty := .int) (C := RX6) (T := TX6) (N := 10) hx hb hts inlX6 tyX6 tyX6_ok nmX6 hown hK hPD.1 hPD.2 hS 0 rfl rfl 7 (by decide) (hts _ gw_326) (fun _ h9 => h9) rfl (by decide +kernel) rfl rfl (Nat.le_of_ble_eq_true rfl) dX6_copy_129 (fun H locs hP hD hS => ?_)
    obtain ⟨f0_3, ef0_3, h⟩ := lvl h
    have hPD : WD G DA (wX6 G h0 a0 f0_3 A0 ++ (wX6 G h1 a1 f1 A1)) H := by rw [ef0_3]; exact ⟨hP, hD⟩
    clear ef0_3 hP hD
    refine lv_aload_n hx hb dX6_copy_132 rfl (lv_at hl 0 rfl) ?_
    refine lv_aload_n hx hb dX6_copy_133 rfl (lv_at hl 1 rfl) ?_
    refine va_get (D := G.1) (ci := 6) (v := .int (f1 8)) (C := RX6) (T := TX6) (N := 10) hx hb hts inlX6 hown hK hPD.1 6 rfl rfl 8 (by decide) (hts _ gw_327) (fun _ h9 => h9) rfl dX6_copy_134 ?_
    refine va_put (D := G.1) (ci := 6) (v := .int (f1 8)) (ty := .int) (C := RX6) (T := TX6) (N := 10) hx hb hts inlX6 tyX6 tyX6_ok nmX6 hown hK hPD.1 hPD.2 hS 0 rfl rfl 8 (by decide) (hts _ gw_327) (fun _ h9 => h9) rfl (by decide +kernel) rfl rfl (Nat.le_of_ble_eq_true rfl) dX6_copy_137 (fun H locs hP hD hS => ?_)
    obtain ⟨f0_4, ef0_4, h⟩ := lvl h
    have hPD : WD G DA (wX6 G h0 a0 f0_4 A0 ++ (wX6 G h1 a1 f1 A1)) H := by rw [ef0_4]; exact ⟨hP, hD⟩
    clear ef0_4 hP hD
    refine lv_aload_n hx hb dX6_copy_140 rfl (lv_at hl 0 rfl) ?_
    refine lv_aload_n hx hb dX6_copy_141 rfl (lv_at hl 1 rfl) ?_
    refine va_get (D := G.1) (ci := 6) (v := .int (f1 9)) (C := RX6) (T := TX6) (N := 10) hx hb hts inlX6 hown hK hPD.1 6 rfl rfl 9 (by decide) (hts _ gw_286) (fun _ h9 => h9) rfl dX6_copy_142 ?_
    refine va_put (D := G.1) (ci := 6) (v := .int (f1 9)) (ty := .int) (C := RX6) (T := TX6) (N := 10) hx hb hts inlX6 tyX6 tyX6_ok nmX6 hown hK hPD.1 hPD.2 hS 0 rfl rfl 9 (by decide) (hts _ gw_286) (fun _ h9 => h9) rfl (by decide +kernel) rfl rfl (Nat.le_of_ble_eq_true rfl) dX6_copy_145 (fun H locs hP hD hS => ?_)
    obtain ⟨f0_5, ef0_5, h⟩ := lvl h
    have hPD : WD G DA (wX6 G h0 a0 f0_5 A0 ++ (wX6 G h1 a1 f1 A1)) H := by rw [ef0_5]; exact ⟨hP, hD⟩
    clear ef0_5 hP hD
    obtain rfl := Option.some.inj h
    exact eV C0 hPD.1 hPD.2 hS dX6_copy_148
  · have h := (if_neg cc1).symm.trans h
    refine lv_aload_n hx hb dX6_copy_70 rfl (lv_at hl 0 rfl) ?_
    refine va_get (D := G.1) (ci := 6) (v := .ref (a0 3)) (C := RX6) (T := TX6) (N := 10) hx hb hts inlX6 hown hK hPD.1 0 rfl rfl 3 (by decide) (hts _ gw_328) (fun _ h9 => h9) rfl dX6_copy_71 ?_
    refine lv_iload_n hx hb dX6_copy_74 rfl (lv_at hl 2 rfl) ?_
    refine lv_aload_n hx hb dX6_copy_75 rfl (lv_at hl 1 rfl) ?_
    refine va_get (D := G.1) (ci := 6) (v := .ref (a1 3)) (C := RX6) (T := TX6) (N := 10) hx hb hts inlX6 hown hK hPD.1 6 rfl rfl 3 (by decide) (hts _ gw_328) (fun _ h9 => h9) rfl dX6_copy_76 ?_
    refine lv_iload_n hx hb dX6_copy_79 rfl (lv_at hl 2 rfl) ?_
    refine kNI (As := [.ref (a1 3), .int l2]) (rest := [.int l2, .ref (a0 3)]) C0 (kt_X9_at l G (a1 3) 8 (A1 3) l2 (by decide)) gi_U_X9_at (host := "IdleCrimes") (index := 43) (List.mem_of_getElem? (i := 30) rfl) gw_6 gw_7 (n := 2) rfl (by decide +kernel) ⟨rfl, rfl, Nat.le_of_ble_eq_true rfl, Nat.le_of_ble_eq_true rfl⟩ hPD hS [10] [0, 1, 2, 3, 4, 5, 6, 7, 8, 9, 11] [0, 1, 2, 3, 4, 5, 6, 7, 8, 9, 11, 10] (wN := (wX6 G h0 a0 f0 A0 ++ (wX6 G h1 a1 f1 A1))) rfl rfl rfl rfl rfl hl.1 (Nat.le_of_ble_eq_true rfl) dX6_copy_80 (fun H locs hPD hS => ?_)
    refine kNV (As := [.ref (a0 3), .int l2, .int (f9_at 8 (A1 3) l2)]) (rest := []) C0 (kt_X9_put l G (a0 3) 8 (A0 3) l2 (f9_at 8 (A1 3) l2) (by decide)) gi_U_X9_put (host := "IdleCrimes") (index := 47) (List.mem_of_getElem? (i := 31) rfl) gw_6 gw_19 (n := 3) rfl (by decide +kernel) ⟨rfl, rfl, Nat.le_of_ble_eq_true rfl, Nat.le_of_ble_eq_true rfl⟩ hPD hS [4] [0, 1, 2, 3, 5, 6, 7, 8, 9, 10, 11] [0, 1, 2, 3, 11, 4, 5, 6, 7, 8, 9, 10] (wN := (wX6 G h0 a0 f0 (updA A0 3 (f9_put 8 (A0 3) l2 (f9_at 8 (A1 3) l2))) ++ (wX6 G h1 a1 f1 A1))) rfl rfl rfl rfl rfl hl.1 (Nat.le_of_ble_eq_true rfl) dX6_copy_83 (fun H locs hPD hS => ?_)
    obtain ⟨A0_6, eA0_6, h⟩ := lvl h
    have hPD : WD G DA (wX6 G h0 a0 f0 A0_6 ++ (wX6 G h1 a1 f1 A1)) H := by rw [eA0_6]; exact hPD
    clear eA0_6
    refine lv_aload_n hx hb dX6_copy_86 rfl (lv_at hl 0 rfl) ?_
    refine va_get (D := G.1) (ci := 6) (v := .ref (a0 4)) (C := RX6) (T := TX6) (N := 10) hx hb hts inlX6 hown hK hPD.1 0 rfl rfl 4 (by decide) (hts _ gw_329) (fun _ h9 => h9) rfl dX6_copy_87 ?_
    refine lv_iload_n hx hb dX6_copy_90 rfl (lv_at hl 2 rfl) ?_
    refine lv_aload_n hx hb dX6_copy_91 rfl (lv_at hl 1 rfl) ?_
    refine va_get (D := G.1) (ci := 6) (v := .ref (a1 4)) (C := RX6) (T := TX6) (N := 10) hx hb hts inlX6 hown hK hPD.1 6 rfl rfl 4 (by decide) (hts _ gw_329) (fun _ h9 => h9) rfl dX6_copy_92 ?_
    refine lv_iload_n hx hb dX6_copy_95 rfl (lv_at hl 2 rfl) ?_
    refine kNI (As := [.ref (a1 4), .int l2]) (rest := [.int l2, .ref (a0 4)]) C0 (kt_X9_at l G (a1 4) 8 (A1 4) l2 (by decide)) gi_U_X9_at (host := "IdleCrimes") (index := 43) (List.mem_of_getElem? (i := 30) rfl) gw_6 gw_7 (n := 2) rfl (by decide +kernel) ⟨rfl, rfl, Nat.le_of_ble_eq_true rfl, Nat.le_of_ble_eq_true rfl⟩ hPD hS [11] [0, 1, 2, 3, 4, 5, 6, 7, 8, 9, 10] [0, 1, 2, 3, 4, 5, 6, 7, 8, 9, 10, 11] (wN := (wX6 G h0 a0 f0 A0_6 ++ (wX6 G h1 a1 f1 A1))) rfl rfl rfl rfl rfl hl.1 (Nat.le_of_ble_eq_true rfl) dX6_copy_96 (fun H locs hPD hS => ?_)
    refine kNV (As := [.ref (a0 4), .int l2, .int (f9_at 8 (A1 4) l2)]) (rest := []) C0 (kt_X9_put l G (a0 4) 8 (A0_6 4) l2 (f9_at 8 (A1 4) l2) (by decide)) gi_U_X9_put (host := "IdleCrimes") (index := 47) (List.mem_of_getElem? (i := 31) rfl) gw_6 gw_19 (n := 3) rfl (by decide +kernel) ⟨rfl, rfl, Nat.le_of_ble_eq_true rfl, Nat.le_of_ble_eq_true rfl⟩ hPD hS [5] [0, 1, 2, 3, 4, 6, 7, 8, 9, 10, 11] [0, 1, 2, 3, 4, 11, 5, 6, 7, 8, 9, 10] (wN := (wX6 G h0 a0 f0 (updA A0_6 4 (f9_put 8 (A0_6 4) l2 (f9_at 8 (A1 4) l2))) ++ (wX6 G h1 a1 f1 A1))) rfl rfl rfl rfl rfl hl.1 (Nat.le_of_ble_eq_true rfl) dX6_copy_99 (fun H locs hPD hS => ?_)
    obtain ⟨A0_7, eA0_7, h⟩ := lvl h
    have hPD : WD G DA (wX6 G h0 a0 f0 A0_7 ++ (wX6 G h1 a1 f1 A1)) H := by rw [eA0_7]; exact hPD
    clear eA0_7
    refine lv_iinc (v := l2 + 1) (lv' := [(2, .int (l2 + 1)), (0, .ref h0), (1, .ref h1)]) hx hb dX6_copy_102 hl (k := 2) rfl rfl (by decide) rfl (fun ls hl => ?_)
    refine lv_goto (tgt := 64) hx hb dX6_copy_105 (by decide) ?_
    exact hk64 A0_7 f0 (l2 + 1) h _ _ _ hPD hS (lv_sub hl [1, 2, 0] rfl)
set_option maxRecDepth 100000 in
set_option maxHeartbeats 4000000 in
theorem ww_f6_copy_l64  (C0 : Cx cX6_copy 3 none RX6 p s m args meth c G DA) {h0 : Nat} {a0 : Nat → Nat} {h1 : Nat} {a1 : Nat → Nat} {f1 : Nat → Int32} {A1 : Nat → Nat → Int32}   {res : (Nat → Nat → Int32) × (Nat → Int32)}  : ∀ (n : Nat) (A0 : Nat → Nat → Int32) (f0 : Nat → Int32) (l2 : Int32), f6_copy_l64 f1 A1  n A0 f0 l2 = some res → ∀ (H : Heap) (locs : List Loc) (ls : Array Slot), WD G DA (wX6 G h0 a0 f0 A0 ++ (wX6 G h1 a1 f1 A1)) H → va_S DA s.heap H locs → lv_has ls 3 [(0, .ref h0), (1, .ref h1), (2, .int l2)] → W p l e rmX6_copy s m args below meth c H locs 0 0 (MQ below (QV G DA (wX6 G h0 a0 res.2 res.1 ++ (wX6 G h1 a1 f1 A1))) args s 0 0 DA) (F0 m 64 ls []) := by
  intro n
  induction n with
  | zero => intro A0 f0 l2 h; cases h
  | succ n ih => intro A0 f0 l2 h; exact ww_f6_copy_b64 C0  ih A0 f0 l2 h
set_option maxRecDepth 100000 in
set_option maxHeartbeats 4000000 in
theorem ww_f6_copy_b2  (C0 : Cx cX6_copy 3 none RX6 p s m args meth c G DA) {h0 : Nat} {a0 : Nat → Nat} {h1 : Nat} {a1 : Nat → Nat} {f1 : Nat → Int32} {A1 : Nat → Nat → Int32}  {k2 : (Nat → Nat → Int32) → (Nat → Int32) → Int32 → Option ((Nat → Nat → Int32) × (Nat → Int32))} {res : (Nat → Nat → Int32) × (Nat → Int32)}  (hk2 : ∀ (A0 : Nat → Nat → Int32) (f0 : Nat → Int32) (l2 : Int32), k2 A0 f0 l2 = some res → ∀ (H : Heap) (locs : List Loc) (ls : Array Slot), WD G DA (wX6 G h0 a0 f0 A0 ++ (wX6 G h1 a1 f1 A1)) H → va_S DA s.heap H locs → lv_has ls 3 [(0, .ref h0), (1, .ref h1), (2, .int l2)] → W p l e rmX6_copy s m args below meth c H locs 0 0 (MQ below (QV G DA (wX6 G h0 a0 res.2 res.1 ++ (wX6 G h1 a1 f1 A1))) args s 0 0 DA) (F0 m 2 ls [])) : ∀ (A0 : Nat → Nat → Int32) (f0 : Nat → Int32) (l2 : Int32), f6_copy_b2 f1 A1  k2 A0 f0 l2 = some res → ∀ (H : Heap) (locs : List Loc) (ls : Array Slot), WD G DA (wX6 G h0 a0 f0 A0 ++ (wX6 G h1 a1 f1 A1)) H → va_S DA s.heap H locs → lv_has ls 3 [(0, .ref h0), (1, .ref h1), (2, .int l2)] → W p l e rmX6_copy s m args below meth c H locs 0 0 (MQ below (QV G DA (wX6 G h0 a0 res.2 res.1 ++ (wX6 G h1 a1 f1 A1))) args s 0 0 DA) (F0 m 2 ls []) := by
  obtain ⟨hx, hb, hml, hown, hts⟩ := C0.1
  have hK := C0.2.2.2.1
  intro A0 f0 l2 h _ _ _ hPD hS hl
  unfold f6_copy_b2 at h
  refine lv_iload_n hx hb dX6_copy_2 rfl (lv_at hl 2 rfl) ?_
  refine lv_bipush (v := 16) hx hb dX6_copy_3 (by decide) ?_
  refine lv_icmp_ge (tgt := 62) hx hb dX6_copy_5 (by decide) (fun cc1 => ?_) (fun cc1 => ?_)
  · have h := (if_pos cc1).symm.trans h
    refine lv_iconst (v := 0) hx hb dX6_copy_62 (by decide) ?_
    refine lv_istore_n (lv' := [(2, .int 0), (0, .ref h0), (1, .ref h1)]) hx hb dX6_copy_63 rfl hl (by decide) rfl (fun ls hl => ?_)
    exact ww_f6_copy_l64 C0 NF A0 f0 0 h _ _ _ hPD hS (lv_sub hl [1, 2, 0] rfl)
  · have h := (if_neg cc1).symm.trans h
    refine lv_aload_n hx hb dX6_copy_8 rfl (lv_at hl 0 rfl) ?_
    refine va_get (D := G.1) (ci := 6) (v := .ref (a0 0)) (C := RX6) (T := TX6) (N := 10) hx hb hts inlX6 hown hK hPD.1 0 rfl rfl 0 (by decide) (hts _ gw_330) (fun _ h9 => h9) rfl dX6_copy_9 ?_
    refine lv_iload_n hx hb dX6_copy_12 rfl (lv_at hl 2 rfl) ?_
    refine lv_aload_n hx hb dX6_copy_13 rfl (lv_at hl 1 rfl) ?_
    refine va_get (D := G.1) (ci := 6) (v := .ref (a1 0)) (C := RX6) (T := TX6) (N := 10) hx hb hts inlX6 hown hK hPD.1 6 rfl rfl 0 (by decide) (hts _ gw_330) (fun _ h9 => h9) rfl dX6_copy_14 ?_
    refine lv_iload_n hx hb dX6_copy_17 rfl (lv_at hl 2 rfl) ?_
    refine kNI (As := [.ref (a1 0), .int l2]) (rest := [.int l2, .ref (a0 0)]) C0 (kt_X9_at l G (a1 0) 16 (A1 0) l2 (by decide)) gi_U_X9_at (host := "IdleCrimes") (index := 43) (List.mem_of_getElem? (i := 30) rfl) gw_6 gw_7 (n := 2) rfl (by decide +kernel) ⟨rfl, rfl, Nat.le_of_ble_eq_true rfl, Nat.le_of_ble_eq_true rfl⟩ hPD hS [7] [0, 1, 2, 3, 4, 5, 6, 8, 9, 10, 11] [0, 1, 2, 3, 4, 5, 6, 11, 7, 8, 9, 10] (wN := (wX6 G h0 a0 f0 A0 ++ (wX6 G h1 a1 f1 A1))) rfl rfl rfl rfl rfl hl.1 (Nat.le_of_ble_eq_true rfl) dX6_copy_18 (fun H locs hPD hS => ?_)
    refine kNV (As := [.ref (a0 0), .int l2, .int (f9_at 16 (A1 0) l2)]) (rest := []) C0 (kt_X9_put l G (a0 0) 16 (A0 0) l2 (f9_at 16 (A1 0) l2) (by decide)) gi_U_X9_put (host := "IdleCrimes") (index := 47) (List.mem_of_getElem? (i := 31) rfl) gw_6 gw_19 (n := 3) rfl (by decide +kernel) ⟨rfl, rfl, Nat.le_of_ble_eq_true rfl, Nat.le_of_ble_eq_true rfl⟩ hPD hS [1] [0, 2, 3, 4, 5, 6, 7, 8, 9, 10, 11] [0, 11, 1, 2, 3, 4, 5, 6, 7, 8, 9, 10] (wN := (wX6 G h0 a0 f0 (updA A0 0 (f9_put 16 (A0 0) l2 (f9_at 16 (A1 0) l2))) ++ (wX6 G h1 a1 f1 A1))) rfl rfl rfl rfl rfl hl.1 (Nat.le_of_ble_eq_true rfl) dX6_copy_21 (fun H locs hPD hS => ?_)
    obtain ⟨A0_8, eA0_8, h⟩ := lvl h
    have hPD : WD G DA (wX6 G h0 a0 f0 A0_8 ++ (wX6 G h1 a1 f1 A1)) H := by rw [eA0_8]; exact hPD
    clear eA0_8
    refine lv_aload_n hx hb dX6_copy_24 rfl (lv_at hl 0 rfl) ?_
    refine va_get (D := G.1) (ci := 6) (v := .ref (a0 1)) (C := RX6) (T := TX6) (N := 10) hx hb hts inlX6 hown hK hPD.1 0 rfl rfl 1 (by decide) (hts _ gw_331) (fun _ h9 => h9) rfl dX6_copy_25 ?_
    refine lv_iload_n hx hb dX6_copy_28 rfl (lv_at hl 2 rfl) ?_
    refine lv_aload_n hx hb dX6_copy_29 rfl (lv_at hl 1 rfl) ?_
    refine va_get (D := G.1) (ci := 6) (v := .ref (a1 1)) (C := RX6) (T := TX6) (N := 10) hx hb hts inlX6 hown hK hPD.1 6 rfl rfl 1 (by decide) (hts _ gw_331) (fun _ h9 => h9) rfl dX6_copy_30 ?_
    refine lv_iload_n hx hb dX6_copy_33 rfl (lv_at hl 2 rfl) ?_
    refine kNI (As := [.ref (a1 1), .int l2]) (rest := [.int l2, .ref (a0 1)]) C0 (kt_X9_at l G (a1 1) 16 (A1 1) l2 (by decide)) gi_U_X9_at (host := "IdleCrimes") (index := 43) (List.mem_of_getElem? (i := 30) rfl) gw_6 gw_7 (n := 2) rfl (by decide +kernel) ⟨rfl, rfl, Nat.le_of_ble_eq_true rfl, Nat.le_of_ble_eq_true rfl⟩ hPD hS [8] [0, 1, 2, 3, 4, 5, 6, 7, 9, 10, 11] [0, 1, 2, 3, 4, 5, 6, 7, 11, 8, 9, 10] (wN := (wX6 G h0 a0 f0 A0_8 ++ (wX6 G h1 a1 f1 A1))) rfl rfl rfl rfl rfl hl.1 (Nat.le_of_ble_eq_true rfl) dX6_copy_34 (fun H locs hPD hS => ?_)
    refine kNV (As := [.ref (a0 1), .int l2, .int (f9_at 16 (A1 1) l2)]) (rest := []) C0 (kt_X9_put l G (a0 1) 16 (A0_8 1) l2 (f9_at 16 (A1 1) l2) (by decide)) gi_U_X9_put (host := "IdleCrimes") (index := 47) (List.mem_of_getElem? (i := 31) rfl) gw_6 gw_19 (n := 3) rfl (by decide +kernel) ⟨rfl, rfl, Nat.le_of_ble_eq_true rfl, Nat.le_of_ble_eq_true rfl⟩ hPD hS [2] [0, 1, 3, 4, 5, 6, 7, 8, 9, 10, 11] [0, 1, 11, 2, 3, 4, 5, 6, 7, 8, 9, 10] (wN := (wX6 G h0 a0 f0 (updA A0_8 1 (f9_put 16 (A0_8 1) l2 (f9_at 16 (A1 1) l2))) ++ (wX6 G h1 a1 f1 A1))) rfl rfl rfl rfl rfl hl.1 (Nat.le_of_ble_eq_true rfl) dX6_copy_37 (fun H locs hPD hS => ?_)
    obtain ⟨A0_9, eA0_9, h⟩ := lvl h
    have hPD : WD G DA (wX6 G h0 a0 f0 A0_9 ++ (wX6 G h1 a1 f1 A1)) H := by rw [eA0_9]; exact hPD
    clear eA0_9
    refine lv_aload_n hx hb dX6_copy_40 rfl (lv_at hl 0 rfl) ?_
    refine va_get (D := G.1) (ci := 6) (v := .ref (a0 2)) (C := RX6) (T := TX6) (N := 10) hx hb hts inlX6 hown hK hPD.1 0 rfl rfl 2 (by decide) (hts _ gw_332) (fun _ h9 => h9) rfl dX6_copy_41 ?_
    refine lv_iload_n hx hb dX6_copy_44 rfl (lv_at hl 2 rfl) ?_
    refine lv_aload_n hx hb dX6_copy_45 rfl (lv_at hl 1 rfl) ?_
    refine va_get (D := G.1) (ci := 6) (v := .ref (a1 2)) (C := RX6) (T := TX6) (N := 10) hx hb hts inlX6 hown hK hPD.1 6 rfl rfl 2 (by decide) (hts _ gw_332) (fun _ h9 => h9) rfl dX6_copy_46 ?_
    refine lv_iload_n hx hb dX6_copy_49 rfl (lv_at hl 2 rfl) ?_
    refine kNI (As := [.ref (a1 2), .int l2]) (rest := [.int l2, .ref (a0 2)]) C0 (kt_X9_at l G (a1 2) 16 (A1 2) l2 (by decide)) gi_U_X9_at (host := "IdleCrimes") (index := 43) (List.mem_of_getElem? (i := 30) rfl) gw_6 gw_7 (n := 2) rfl (by decide +kernel) ⟨rfl, rfl, Nat.le_of_ble_eq_true rfl, Nat.le_of_ble_eq_true rfl⟩ hPD hS [9] [0, 1, 2, 3, 4, 5, 6, 7, 8, 10, 11] [0, 1, 2, 3, 4, 5, 6, 7, 8, 11, 9, 10] (wN := (wX6 G h0 a0 f0 A0_9 ++ (wX6 G h1 a1 f1 A1))) rfl rfl rfl rfl rfl hl.1 (Nat.le_of_ble_eq_true rfl) dX6_copy_50 (fun H locs hPD hS => ?_)
    refine kNV (As := [.ref (a0 2), .int l2, .int (f9_at 16 (A1 2) l2)]) (rest := []) C0 (kt_X9_put l G (a0 2) 16 (A0_9 2) l2 (f9_at 16 (A1 2) l2) (by decide)) gi_U_X9_put (host := "IdleCrimes") (index := 47) (List.mem_of_getElem? (i := 31) rfl) gw_6 gw_19 (n := 3) rfl (by decide +kernel) ⟨rfl, rfl, Nat.le_of_ble_eq_true rfl, Nat.le_of_ble_eq_true rfl⟩ hPD hS [3] [0, 1, 2, 4, 5, 6, 7, 8, 9, 10, 11] [0, 1, 2, 11, 3, 4, 5, 6, 7, 8, 9, 10] (wN := (wX6 G h0 a0 f0 (updA A0_9 2 (f9_put 16 (A0_9 2) l2 (f9_at 16 (A1 2) l2))) ++ (wX6 G h1 a1 f1 A1))) rfl rfl rfl rfl rfl hl.1 (Nat.le_of_ble_eq_true rfl) dX6_copy_53 (fun H locs hPD hS => ?_)
    obtain ⟨A0_10, eA0_10, h⟩ := lvl h
    have hPD : WD G DA (wX6 G h0 a0 f0 A0_10 ++ (wX6 G h1 a1 f1 A1)) H := by rw [eA0_10]; exact hPD
    clear eA0_10
    refine lv_iinc (v := l2 + 1) (lv' := [(2, .int (l2 + 1)), (0, .ref h0), (1, .ref h1)]) hx hb dX6_copy_56 hl (k := 2) rfl rfl (by decide) rfl (fun ls hl => ?_)
    refine lv_goto (tgt := 2) hx hb dX6_copy_59 (by decide) ?_
    exact hk2 A0_10 f0 (l2 + 1) h _ _ _ hPD hS (lv_sub hl [1, 2, 0] rfl)
set_option maxRecDepth 100000 in
set_option maxHeartbeats 4000000 in
theorem ww_f6_copy_l2  (C0 : Cx cX6_copy 3 none RX6 p s m args meth c G DA) {h0 : Nat} {a0 : Nat → Nat} {h1 : Nat} {a1 : Nat → Nat} {f1 : Nat → Int32} {A1 : Nat → Nat → Int32}   {res : (Nat → Nat → Int32) × (Nat → Int32)}  : ∀ (n : Nat) (A0 : Nat → Nat → Int32) (f0 : Nat → Int32) (l2 : Int32), f6_copy_l2 f1 A1  n A0 f0 l2 = some res → ∀ (H : Heap) (locs : List Loc) (ls : Array Slot), WD G DA (wX6 G h0 a0 f0 A0 ++ (wX6 G h1 a1 f1 A1)) H → va_S DA s.heap H locs → lv_has ls 3 [(0, .ref h0), (1, .ref h1), (2, .int l2)] → W p l e rmX6_copy s m args below meth c H locs 0 0 (MQ below (QV G DA (wX6 G h0 a0 res.2 res.1 ++ (wX6 G h1 a1 f1 A1))) args s 0 0 DA) (F0 m 2 ls []) := by
  intro n
  induction n with
  | zero => intro A0 f0 l2 h; cases h
  | succ n ih => intro A0 f0 l2 h; exact ww_f6_copy_b2 C0  ih A0 f0 l2 h
set_option maxRecDepth 100000 in
set_option maxHeartbeats 4000000 in
theorem kt_X6_copy (l : Launch) (G : Gp) (h0 : Nat) (a0 : Nat → Nat) (h1 : Nat) (a1 : Nat → Nat) (f0 : Nat → Int32) (A0 : Nat → Nat → Int32) (f1 : Nat → Int32) (A1 : Nat → Nat → Int32) : ∀ {r : (Nat → Nat → Int32) × (Nat → Int32)}, f6_copy f0 A0 f1 A1 = some r → CtrV l yX6_copy cX6_copy 3 none rmX6_copy G [.ref h0, .ref h1] (wX6 G h0 a0 f0 A0 ++ (wX6 G h1 a1 f1 A1)) (wX6 G h0 a0 r.2 r.1 ++ (wX6 G h1 a1 f1 A1)) := by
  intro res h
  refine ctrV_of (cc := cX6_copy) (maxL := 3) (ret := none) (by decide +kernel) rfl (Nat.le_of_ble_eq_true rfl) (fun p e s m below meth c DA C0 hP hD ls hl => ?_)
  have hPD : WD G DA (wX6 G h0 a0 f0 A0 ++ (wX6 G h1 a1 f1 A1)) s.heap := ⟨hP, hD⟩
  have hS : va_S DA s.heap s.heap [] := va_S.rf
  have hl : lv_has ls 3 [(0, .ref h0), (1, .ref h1)] := hl
  obtain ⟨hx, hb, hml, hown, hts⟩ := C0.1
  have hK := C0.2.2.2.1
  unfold f6_copy at h
  refine lv_iconst (v := 0) hx hb dX6_copy_0 (by decide) ?_
  refine lv_istore_n (lv' := [(2, .int 0), (0, .ref h0), (1, .ref h1)]) hx hb dX6_copy_1 rfl hl (by decide) rfl (fun ls hl => ?_)
  exact ww_f6_copy_l2 C0 NF A0 f0 0 h _ _ _ hPD hS (lv_sub hl [1, 2, 0] rfl)
abbrev rmX6_standAt : Room := { frames := 3, cells := 0, slots := 0, locals := 64 }
set_option maxRecDepth 100000 in
set_option maxHeartbeats 4000000 in
theorem ww_f6_standAt_b4  (C0 : Cx cX6_standAt 4 (some .int) RX6 p s m args meth c G DA) {h0 : Nat} {a0 : Nat → Nat} {f0 : Nat → Int32} {A0 : Nat → Nat → Int32} {p1 : Int32}  {k4 : Int32 → Int32 → Option (Int32)} {res : Int32}  (hk4 : ∀ (l2 : Int32) (l3 : Int32), k4 l2 l3 = some res → ∀ (H : Heap) (locs : List Loc) (ls : Array Slot), WD G DA (wX6 G h0 a0 f0 A0) H → va_S DA s.heap H locs → lv_has ls 4 [(0, .ref h0), (1, .int p1), (2, .int l2), (3, .int l3)] → W p l e rmX6_standAt s m args below meth c H locs 0 0 (MQ below (QI G DA res (wX6 G h0 a0 f0 A0)) args s 0 0 DA) (F0 m 4 ls [])) : ∀ (l2 : Int32) (l3 : Int32), f6_standAt_b4 f0 A0 p1  k4 l2 l3 = some res → ∀ (H : Heap) (locs : List Loc) (ls : Array Slot), WD G DA (wX6 G h0 a0 f0 A0) H → va_S DA s.heap H locs → lv_has ls 4 [(0, .ref h0), (1, .int p1), (2, .int l2), (3, .int l3)] → W p l e rmX6_standAt s m args below meth c H locs 0 0 (MQ below (QI G DA res (wX6 G h0 a0 f0 A0)) args s 0 0 DA) (F0 m 4 ls []) := by
  obtain ⟨hx, hb, hml, hown, hts⟩ := C0.1
  have hK := C0.2.2.2.1
  intro l2 l3 h _ _ _ hPD hS hl
  unfold f6_standAt_b4 at h
  refine lv_iload_n hx hb dX6_standAt_4 rfl (lv_at hl 3 rfl) ?_
  refine lv_bipush (v := 8) hx hb dX6_standAt_5 (by decide) ?_
  refine lv_icmp_ge (tgt := 42) hx hb dX6_standAt_7 (by decide) (fun cc1 => ?_) (fun cc1 => ?_)
  · have h := (if_pos cc1).symm.trans h
    refine lv_iload_n hx hb dX6_standAt_42 rfl (lv_at hl 2 rfl) ?_
    obtain rfl := Option.some.inj h
    exact eI C0 hPD.1 hPD.2 hS rfl dX6_standAt_43
  · have h := (if_neg cc1).symm.trans h
    refine lv_aload_n hx hb dX6_standAt_10 rfl (lv_at hl 0 rfl) ?_
    refine lv_iload_n hx hb dX6_standAt_11 rfl (lv_at hl 3 rfl) ?_
    refine kVI (As := [.int l3]) (rest := []) C0 (kt_X6_isTold l G h0 a0 f0 A0 l3) gi_V_X6_59_X6_isTold (n := 1) rfl (by decide +kernel) rfl ⟨rfl, rfl, Nat.le_of_ble_eq_true rfl, Nat.le_of_ble_eq_true rfl⟩ hPD hS 0 6 rfl rfl rfl [0, 1, 2, 3, 4, 5] [] [0, 1, 2, 3, 4, 5] (wN := (wX6 G h0 a0 f0 A0)) rfl rfl rfl rfl rfl hl.1 (Nat.le_of_ble_eq_true rfl) dX6_standAt_12 (fun H locs hPD hS => ?_)
    refine lv_if_eq (tgt := 36) hx hb dX6_standAt_15 (by decide) (fun cc1 => ?_) (fun cc1 => ?_)
    · have h := (if_pos cc1).symm.trans h
      refine lv_iinc (v := l3 + 1) (lv' := [(3, .int (l3 + 1)), (0, .ref h0), (1, .int p1), (2, .int l2)]) hx hb dX6_standAt_36 hl (k := 3) rfl rfl (by decide) rfl (fun ls hl => ?_)
      refine lv_goto (tgt := 4) hx hb dX6_standAt_39 (by decide) ?_
      exact hk4 l2 (l3 + 1) h _ _ _ hPD hS (lv_sub hl [1, 2, 3, 0] rfl)
    · have h := (if_neg cc1).symm.trans h
      refine lv_aload_n hx hb dX6_standAt_18 rfl (lv_at hl 0 rfl) ?_
      refine va_get (D := G.1) (ci := 6) (v := .ref (a0 3)) (C := RX6) (T := TX6) (N := 10) hx hb hts inlX6 hown hK hPD.1 0 rfl rfl 3 (by decide) (hts _ gw_328) (fun _ h9 => h9) rfl dX6_standAt_19 ?_
      refine lv_iload_n hx hb dX6_standAt_22 rfl (lv_at hl 3 rfl) ?_
      refine kNI (As := [.ref (a0 3), .int l3]) (rest := []) C0 (kt_X9_at l G (a0 3) 8 (A0 3) l3 (by decide)) gi_U_X9_at (host := "IdleCrimes") (index := 43) (List.mem_of_getElem? (i := 30) rfl) gw_6 gw_7 (n := 2) rfl (by decide +kernel) ⟨rfl, rfl, Nat.le_of_ble_eq_true rfl, Nat.le_of_ble_eq_true rfl⟩ hPD hS [4] [0, 1, 2, 3, 5] [0, 1, 2, 3, 5, 4] (wN := (wX6 G h0 a0 f0 A0)) rfl rfl rfl rfl rfl hl.1 (Nat.le_of_ble_eq_true rfl) dX6_standAt_23 (fun H locs hPD hS => ?_)
      refine lv_iload_n hx hb dX6_standAt_26 rfl (lv_at hl 1 rfl) ?_
      refine lv_icmp_ne (tgt := 36) hx hb dX6_standAt_27 (by decide) (fun cc1 => ?_) (fun cc1 => ?_)
      · have h := (if_neg cc1).symm.trans h
        refine lv_iinc (v := l3 + 1) (lv' := [(3, .int (l3 + 1)), (0, .ref h0), (1, .int p1), (2, .int l2)]) hx hb dX6_standAt_36 hl (k := 3) rfl rfl (by decide) rfl (fun ls hl => ?_)
        refine lv_goto (tgt := 4) hx hb dX6_standAt_39 (by decide) ?_
        exact hk4 l2 (l3 + 1) h _ _ _ hPD hS (lv_sub hl [1, 2, 3, 0] rfl)
      · have h := (if_pos cc1).symm.trans h
        refine lv_iload_n hx hb dX6_standAt_30 rfl (lv_at hl 2 rfl) ?_
        refine lv_iconst (v := 1) hx hb dX6_standAt_31 (by decide) ?_
        refine lv_iload_n hx hb dX6_standAt_32 rfl (lv_at hl 3 rfl) ?_
        refine lv_ishl hx hb dX6_standAt_33 ?_
        refine lv_ior hx hb dX6_standAt_34 ?_
        refine lv_istore_n (lv' := [(2, .int (l2 ||| (shl 1 l3))), (0, .ref h0), (1, .int p1), (3, .int l3)]) hx hb dX6_standAt_35 rfl hl (by decide) rfl (fun ls hl => ?_)
        refine lv_iinc (v := l3 + 1) (lv' := [(3, .int (l3 + 1)), (2, .int (l2 ||| (shl 1 l3))), (0, .ref h0), (1, .int p1)]) hx hb dX6_standAt_36 hl (k := 3) rfl rfl (by decide) rfl (fun ls hl => ?_)
        refine lv_goto (tgt := 4) hx hb dX6_standAt_39 (by decide) ?_
        exact hk4 (l2 ||| (shl 1 l3)) (l3 + 1) h _ _ _ hPD hS (lv_sub hl [2, 3, 1, 0] rfl)
set_option maxRecDepth 100000 in
set_option maxHeartbeats 4000000 in
theorem ww_f6_standAt_l4  (C0 : Cx cX6_standAt 4 (some .int) RX6 p s m args meth c G DA) {h0 : Nat} {a0 : Nat → Nat} {f0 : Nat → Int32} {A0 : Nat → Nat → Int32} {p1 : Int32}   {res : Int32}  : ∀ (n : Nat) (l2 : Int32) (l3 : Int32), f6_standAt_l4 f0 A0 p1  n l2 l3 = some res → ∀ (H : Heap) (locs : List Loc) (ls : Array Slot), WD G DA (wX6 G h0 a0 f0 A0) H → va_S DA s.heap H locs → lv_has ls 4 [(0, .ref h0), (1, .int p1), (2, .int l2), (3, .int l3)] → W p l e rmX6_standAt s m args below meth c H locs 0 0 (MQ below (QI G DA res (wX6 G h0 a0 f0 A0)) args s 0 0 DA) (F0 m 4 ls []) := by
  intro n
  induction n with
  | zero => intro l2 l3 h; cases h
  | succ n ih => intro l2 l3 h; exact ww_f6_standAt_b4 C0  ih l2 l3 h
set_option maxRecDepth 100000 in
set_option maxHeartbeats 4000000 in
theorem kt_X6_standAt (l : Launch) (G : Gp) (h0 : Nat) (a0 : Nat → Nat) (f0 : Nat → Int32) (A0 : Nat → Nat → Int32) (p1 : Int32) : ∀ {r : Int32}, f6_standAt f0 A0 p1 = some r → CtrI l yX6_standAt cX6_standAt 4 (some .int) rmX6_standAt G [.ref h0, .int p1] (wX6 G h0 a0 f0 A0) r (wX6 G h0 a0 f0 A0) := by
  intro res h
  refine ctrI_of (cc := cX6_standAt) (maxL := 4) (ret := (some .int)) (by decide +kernel) rfl (Nat.le_of_ble_eq_true rfl) (fun p e s m below meth c DA C0 hP hD ls hl => ?_)
  have hPD : WD G DA (wX6 G h0 a0 f0 A0) s.heap := ⟨hP, hD⟩
  have hS : va_S DA s.heap s.heap [] := va_S.rf
  have hl : lv_has ls 4 [(0, .ref h0), (1, .int p1)] := hl
  obtain ⟨hx, hb, hml, hown, hts⟩ := C0.1
  have hK := C0.2.2.2.1
  unfold f6_standAt at h
  refine lv_iconst (v := 0) hx hb dX6_standAt_0 (by decide) ?_
  refine lv_istore_n (lv' := [(2, .int 0), (0, .ref h0), (1, .int p1)]) hx hb dX6_standAt_1 rfl hl (by decide) rfl (fun ls hl => ?_)
  refine lv_iconst (v := 0) hx hb dX6_standAt_2 (by decide) ?_
  refine lv_istore_n (lv' := [(3, .int 0), (2, .int 0), (0, .ref h0), (1, .int p1)]) hx hb dX6_standAt_3 rfl hl (by decide) rfl (fun ls hl => ?_)
  exact ww_f6_standAt_l4 C0 NF 0 0 h _ _ _ hPD hS (lv_sub hl [2, 3, 1, 0] rfl)
abbrev rmX6_stoodAt : Room := { frames := 3, cells := 0, slots := 0, locals := 64 }
set_option maxRecDepth 100000 in
set_option maxHeartbeats 4000000 in
theorem ww_f6_stoodAt_b4  (C0 : Cx cX6_stoodAt 3 (some .int) RX6 p s m args meth c G DA) {h0 : Nat} {a0 : Nat → Nat} {f0 : Nat → Int32} {A0 : Nat → Nat → Int32}  {k4 : Int32 → Int32 → Option (Int32)} {res : Int32}  (hk4 : ∀ (l1 : Int32) (l2 : Int32), k4 l1 l2 = some res → ∀ (H : Heap) (locs : List Loc) (ls : Array Slot), WD G DA (wX6 G h0 a0 f0 A0) H → va_S DA s.heap H locs → lv_has ls 3 [(0, .ref h0), (1, .int l1), (2, .int l2)] → W p l e rmX6_stoodAt s m args below meth c H locs 0 0 (MQ below (QI G DA res (wX6 G h0 a0 f0 A0)) args s 0 0 DA) (F0 m 4 ls [])) : ∀ (l1 : Int32) (l2 : Int32), f6_stoodAt_b4 f0 A0  k4 l1 l2 = some res → ∀ (H : Heap) (locs : List Loc) (ls : Array Slot), WD G DA (wX6 G h0 a0 f0 A0) H → va_S DA s.heap H locs → lv_has ls 3 [(0, .ref h0), (1, .int l1), (2, .int l2)] → W p l e rmX6_stoodAt s m args below meth c H locs 0 0 (MQ below (QI G DA res (wX6 G h0 a0 f0 A0)) args s 0 0 DA) (F0 m 4 ls []) := by
  obtain ⟨hx, hb, hml, hown, hts⟩ := C0.1
  have hK := C0.2.2.2.1
  intro l1 l2 h _ _ _ hPD hS hl
  unfold f6_stoodAt_b4 at h
  refine lv_iload_n hx hb dX6_stoodAt_4 rfl (lv_at hl 2 rfl) ?_
  refine lv_bipush (v := 8) hx hb dX6_stoodAt_5 (by decide) ?_
  refine lv_icmp_ge (tgt := 37) hx hb dX6_stoodAt_7 (by decide) (fun cc1 => ?_) (fun cc1 => ?_)
  · have h := (if_pos cc1).symm.trans h
    refine lv_iload_n hx hb dX6_stoodAt_37 rfl (lv_at hl 1 rfl) ?_
    obtain rfl := Option.some.inj h
    exact eI C0 hPD.1 hPD.2 hS rfl dX6_stoodAt_38
  · have h := (if_neg cc1).symm.trans h
    refine lv_aload_n hx hb dX6_stoodAt_10 rfl (lv_at hl 0 rfl) ?_
    refine lv_iload_n hx hb dX6_stoodAt_11 rfl (lv_at hl 2 rfl) ?_
    refine kVI (As := [.int l2]) (rest := []) C0 (kt_X6_isTold l G h0 a0 f0 A0 l2) gi_V_X6_59_X6_isTold (n := 1) rfl (by decide +kernel) rfl ⟨rfl, rfl, Nat.le_of_ble_eq_true rfl, Nat.le_of_ble_eq_true rfl⟩ hPD hS 0 6 rfl rfl rfl [0, 1, 2, 3, 4, 5] [] [0, 1, 2, 3, 4, 5] (wN := (wX6 G h0 a0 f0 A0)) rfl rfl rfl rfl rfl hl.1 (Nat.le_of_ble_eq_true rfl) dX6_stoodAt_12 (fun H locs hPD hS => ?_)
    refine lv_if_eq (tgt := 31) hx hb dX6_stoodAt_15 (by decide) (fun cc1 => ?_) (fun cc1 => ?_)
    · have h := (if_pos cc1).symm.trans h
      refine lv_iinc (v := l2 + 1) (lv' := [(2, .int (l2 + 1)), (0, .ref h0), (1, .int l1)]) hx hb dX6_stoodAt_31 hl (k := 2) rfl rfl (by decide) rfl (fun ls hl => ?_)
      refine lv_goto (tgt := 4) hx hb dX6_stoodAt_34 (by decide) ?_
      exact hk4 l1 (l2 + 1) h _ _ _ hPD hS (lv_sub hl [1, 2, 0] rfl)
    · have h := (if_neg cc1).symm.trans h
      refine lv_iload_n hx hb dX6_stoodAt_18 rfl (lv_at hl 1 rfl) ?_
      refine lv_iconst (v := 1) hx hb dX6_stoodAt_19 (by decide) ?_
      refine lv_aload_n hx hb dX6_stoodAt_20 rfl (lv_at hl 0 rfl) ?_
      refine va_get (D := G.1) (ci := 6) (v := .ref (a0 3)) (C := RX6) (T := TX6) (N := 10) hx hb hts inlX6 hown hK hPD.1 0 rfl rfl 3 (by decide) (hts _ gw_328) (fun _ h9 => h9) rfl dX6_stoodAt_21 ?_
      refine lv_iload_n hx hb dX6_stoodAt_24 rfl (lv_at hl 2 rfl) ?_
      refine kNI (As := [.ref (a0 3), .int l2]) (rest := [.int 1, .int l1]) C0 (kt_X9_at l G (a0 3) 8 (A0 3) l2 (by decide)) gi_U_X9_at (host := "IdleCrimes") (index := 43) (List.mem_of_getElem? (i := 30) rfl) gw_6 gw_7 (n := 2) rfl (by decide +kernel) ⟨rfl, rfl, Nat.le_of_ble_eq_true rfl, Nat.le_of_ble_eq_true rfl⟩ hPD hS [4] [0, 1, 2, 3, 5] [0, 1, 2, 3, 5, 4] (wN := (wX6 G h0 a0 f0 A0)) rfl rfl rfl rfl rfl hl.1 (Nat.le_of_ble_eq_true rfl) dX6_stoodAt_25 (fun H locs hPD hS => ?_)
      refine lv_ishl hx hb dX6_stoodAt_28 ?_
      refine lv_ior hx hb dX6_stoodAt_29 ?_
      refine lv_istore_n (lv' := [(1, .int (l1 ||| (shl 1 (f9_at 8 (A0 3) l2)))), (0, .ref h0), (2, .int l2)]) hx hb dX6_stoodAt_30 rfl hl (by decide) rfl (fun ls hl => ?_)
      refine lv_iinc (v := l2 + 1) (lv' := [(2, .int (l2 + 1)), (1, .int (l1 ||| (shl 1 (f9_at 8 (A0 3) l2)))), (0, .ref h0)]) hx hb dX6_stoodAt_31 hl (k := 2) rfl rfl (by decide) rfl (fun ls hl => ?_)
      refine lv_goto (tgt := 4) hx hb dX6_stoodAt_34 (by decide) ?_
      exact hk4 (l1 ||| (shl 1 (f9_at 8 (A0 3) l2))) (l2 + 1) h _ _ _ hPD hS (lv_sub hl [2, 1, 0] rfl)
set_option maxRecDepth 100000 in
set_option maxHeartbeats 4000000 in
theorem ww_f6_stoodAt_l4  (C0 : Cx cX6_stoodAt 3 (some .int) RX6 p s m args meth c G DA) {h0 : Nat} {a0 : Nat → Nat} {f0 : Nat → Int32} {A0 : Nat → Nat → Int32}   {res : Int32}  : ∀ (n : Nat) (l1 : Int32) (l2 : Int32), f6_stoodAt_l4 f0 A0  n l1 l2 = some res → ∀ (H : Heap) (locs : List Loc) (ls : Array Slot), WD G DA (wX6 G h0 a0 f0 A0) H → va_S DA s.heap H locs → lv_has ls 3 [(0, .ref h0), (1, .int l1), (2, .int l2)] → W p l e rmX6_stoodAt s m args below meth c H locs 0 0 (MQ below (QI G DA res (wX6 G h0 a0 f0 A0)) args s 0 0 DA) (F0 m 4 ls []) := by
  intro n
  induction n with
  | zero => intro l1 l2 h; cases h
  | succ n ih => intro l1 l2 h; exact ww_f6_stoodAt_b4 C0  ih l1 l2 h
set_option maxRecDepth 100000 in
set_option maxHeartbeats 4000000 in
theorem kt_X6_stoodAt (l : Launch) (G : Gp) (h0 : Nat) (a0 : Nat → Nat) (f0 : Nat → Int32) (A0 : Nat → Nat → Int32) : ∀ {r : Int32}, f6_stoodAt f0 A0 = some r → CtrI l yX6_stoodAt cX6_stoodAt 3 (some .int) rmX6_stoodAt G [.ref h0] (wX6 G h0 a0 f0 A0) r (wX6 G h0 a0 f0 A0) := by
  intro res h
  refine ctrI_of (cc := cX6_stoodAt) (maxL := 3) (ret := (some .int)) (by decide +kernel) rfl (Nat.le_of_ble_eq_true rfl) (fun p e s m below meth c DA C0 hP hD ls hl => ?_)
  have hPD : WD G DA (wX6 G h0 a0 f0 A0) s.heap := ⟨hP, hD⟩
  have hS : va_S DA s.heap s.heap [] := va_S.rf
  have hl : lv_has ls 3 [(0, .ref h0)] := hl
  obtain ⟨hx, hb, hml, hown, hts⟩ := C0.1
  have hK := C0.2.2.2.1
  unfold f6_stoodAt at h
  refine lv_iconst (v := 0) hx hb dX6_stoodAt_0 (by decide) ?_
  refine lv_istore_n (lv' := [(1, .int 0), (0, .ref h0)]) hx hb dX6_stoodAt_1 rfl hl (by decide) rfl (fun ls hl => ?_)
  refine lv_iconst (v := 0) hx hb dX6_stoodAt_2 (by decide) ?_
  refine lv_istore_n (lv' := [(2, .int 0), (1, .int 0), (0, .ref h0)]) hx hb dX6_stoodAt_3 rfl hl (by decide) rfl (fun ls hl => ?_)
  exact ww_f6_stoodAt_l4 C0 NF 0 0 h _ _ _ hPD hS (lv_sub hl [2, 1, 0] rfl)
abbrev rmX6_wages : Room := { frames := 3, cells := 0, slots := 0, locals := 66 }
set_option maxRecDepth 100000 in
set_option maxHeartbeats 4000000 in
theorem kt_X6_wages (l : Launch) (G : Gp) (h0 : Nat) (a0 : Nat → Nat) (f0 : Nat → Int32) (A0 : Nat → Nat → Int32) : ∀ {r : Int32}, f6_wages f0 A0 = some r → CtrI l yX6_wages cX6_wages 1 (some .int) rmX6_wages G [.ref h0] (wX6 G h0 a0 f0 A0) r (wX6 G h0 a0 f0 A0) := by
  intro res h
  refine ctrI_of (cc := cX6_wages) (maxL := 1) (ret := (some .int)) (by decide +kernel) rfl (Nat.le_of_ble_eq_true rfl) (fun p e s m below meth c DA C0 hP hD ls hl => ?_)
  have hPD : WD G DA (wX6 G h0 a0 f0 A0) s.heap := ⟨hP, hD⟩
  have hS : va_S DA s.heap s.heap [] := va_S.rf
  have hl : lv_has ls 1 [(0, .ref h0)] := hl
  obtain ⟨hx, hb, hml, hown, hts⟩ := C0.1
  have hK := C0.2.2.2.1
  unfold f6_wages at h
  refine lv_aload_n hx hb dX6_wages_0 rfl (lv_at hl 0 rfl) ?_
  refine va_get (D := G.1) (ci := 6) (v := .ref (a0 4)) (C := RX6) (T := TX6) (N := 10) hx hb hts inlX6 hown hK hPD.1 0 rfl rfl 4 (by decide) (hts _ gw_329) (fun _ h9 => h9) rfl dX6_wages_1 ?_
  refine lv_aload_n hx hb dX6_wages_4 rfl (lv_at hl 0 rfl) ?_
  refine va_get (D := G.1) (ci := 6) (v := .int (f0 5)) (C := RX6) (T := TX6) (N := 10) hx hb hts inlX6 hown hK hPD.1 0 rfl rfl 5 (by decide) (hts _ gw_263) (fun _ h9 => h9) rfl dX6_wages_5 ?_
  obtain ⟨q_1, hq_1, h⟩ := ob2 h
  refine kNI (As := [.ref (a0 4), .int (f0 5)]) (rest := []) C0 (kt_X9_sumOf l G (a0 4) 8 (A0 4) (f0 5) (by decide) hq_1) gi_U_X9_sumOf (host := "IdleCrimes") (index := 63) (List.mem_of_getElem? (i := 32) rfl) gw_6 gw_283 (n := 2) rfl (by decide +kernel) ⟨rfl, rfl, Nat.le_of_ble_eq_true rfl, Nat.le_of_ble_eq_true rfl⟩ hPD hS [5] [0, 1, 2, 3, 4] [0, 1, 2, 3, 4, 5] (wN := (wX6 G h0 a0 f0 A0)) rfl rfl rfl rfl rfl hl.1 (Nat.le_of_ble_eq_true rfl) dX6_wages_8 (fun H locs hPD hS => ?_)
  obtain rfl := Option.some.inj h
  exact eI C0 hPD.1 hPD.2 hS rfl dX6_wages_11
abbrev rmX7_append : Room := { frames := 1, cells := 0, slots := 0, locals := 22 }
set_option maxRecDepth 100000 in
set_option maxHeartbeats 4000000 in
theorem ww_f7_append_b3  (C0 : Cx cX7_append 3 none RX7 p s m args meth c G DA) {h0 : Nat} {a0 : Nat → Nat} {p1 : Int32}  {k3 : (Nat → Nat → Int32) → (Nat → Int32) → Int32 → Option ((Nat → Nat → Int32) × (Nat → Int32))} {res : (Nat → Nat → Int32) × (Nat → Int32)}  (hk3 : ∀ (A0 : Nat → Nat → Int32) (f0 : Nat → Int32) (l2 : Int32), k3 A0 f0 l2 = some res → ∀ (H : Heap) (locs : List Loc) (ls : Array Slot), WD G DA (wX7 G h0 a0 f0 A0) H → va_S DA s.heap H locs → lv_has ls 3 [(0, .ref h0), (1, .int p1), (2, .int l2)] → W p l e rmX7_append s m args below meth c H locs 0 0 (MQ below (QV G DA (wX7 G h0 a0 res.2 res.1)) args s 0 0 DA) (F0 m 3 ls [])) : ∀ (A0 : Nat → Nat → Int32) (f0 : Nat → Int32) (l2 : Int32), f7_append_b3 p1  k3 A0 f0 l2 = some res → ∀ (H : Heap) (locs : List Loc) (ls : Array Slot), WD G DA (wX7 G h0 a0 f0 A0) H → va_S DA s.heap H locs → lv_has ls 3 [(0, .ref h0), (1, .int p1), (2, .int l2)] → W p l e rmX7_append s m args below meth c H locs 0 0 (MQ below (QV G DA (wX7 G h0 a0 res.2 res.1)) args s 0 0 DA) (F0 m 3 ls []) := by
  obtain ⟨hx, hb, hml, hown, hts⟩ := C0.1
  have hK := C0.2.2.2.1
  intro A0 f0 l2 h _ _ _ hPD hS hl
  unfold f7_append_b3 at h
  refine lv_iload_n hx hb dX7_append_3 rfl (lv_at hl 2 rfl) ?_
  refine lv_if_lt (tgt := 41) hx hb dX7_append_4 (by decide) (fun cc1 => ?_) (fun cc1 => ?_)
  · have h := (if_pos cc1).symm.trans h
    obtain rfl := Option.some.inj h
    exact eV C0 hPD.1 hPD.2 hS dX7_append_41
  · have h := (if_neg cc1).symm.trans h
    refine lv_aload_n hx hb dX7_append_7 rfl (lv_at hl 0 rfl) ?_
    refine va_get (D := G.1) (ci := 7) (v := .ref (a0 0)) (C := RX7) (T := TX7) (N := 6) hx hb hts inlX7 hown hK hPD.1 0 rfl rfl 0 (by decide) (hts _ gw_12) (fun _ h9 => h9) rfl dX7_append_8 ?_
    refine lv_aload_n hx hb dX7_append_11 rfl (lv_at hl 0 rfl) ?_
    refine va_get (D := G.1) (ci := 7) (v := .int (f0 1)) (C := RX7) (T := TX7) (N := 6) hx hb hts inlX7 hown hK hPD.1 0 rfl rfl 1 (by decide) (hts _ gw_334) (fun _ h9 => h9) rfl dX7_append_12 ?_
    refine lv_iload_n hx hb dX7_append_15 rfl (lv_at hl 1 rfl) ?_
    refine lv_iload_n hx hb dX7_append_16 rfl (lv_at hl 2 rfl) ?_
    refine lv_iushr (v := ushr p1 l2) hx hb dX7_append_17 rfl ?_
    refine lv_sipush (v := 255) hx hb dX7_append_18 (by decide) ?_
    refine lv_iand hx hb dX7_append_21 ?_
    refine kNV (As := [.ref (a0 0), .int (f0 1), .int ((ushr p1 l2) &&& 255)]) (rest := []) C0 (kt_X9_put l G (a0 0) 260 (A0 0) (f0 1) ((ushr p1 l2) &&& 255) (by decide)) gi_U_X9_put (host := "IdleCrimes") (index := 31) (List.mem_of_getElem? (i := 10) rfl) gw_6 gw_19 (n := 3) rfl (by decide +kernel) ⟨rfl, rfl, Nat.le_of_ble_eq_true rfl, Nat.le_of_ble_eq_true rfl⟩ hPD hS [1] [0] [0, 1] (wN := (wX7 G h0 a0 f0 (updA A0 0 (f9_put 260 (A0 0) (f0 1) ((ushr p1 l2) &&& 255))))) rfl rfl rfl rfl rfl hl.1 (Nat.le_of_ble_eq_true rfl) dX7_append_22 (fun H locs hPD hS => ?_)
    obtain ⟨A0_1, eA0_1, h⟩ := lvl h
    have hPD : WD G DA (wX7 G h0 a0 f0 A0_1) H := by rw [eA0_1]; exact hPD
    clear eA0_1
    refine lv_aload_n hx hb dX7_append_25 rfl (lv_at hl 0 rfl) ?_
    refine lv_dup hx hb dX7_append_26 rfl ?_
    refine va_get (D := G.1) (ci := 7) (v := .int (f0 1)) (C := RX7) (T := TX7) (N := 6) hx hb hts inlX7 hown hK hPD.1 0 rfl rfl 1 (by decide) (hts _ gw_334) (fun _ h9 => h9) rfl dX7_append_27 ?_
    refine lv_iconst (v := 1) hx hb dX7_append_30 (by decide) ?_
    refine lv_iadd hx hb dX7_append_31 ?_
    refine va_put (D := G.1) (ci := 7) (v := .int ((f0 1) + 1)) (ty := .int) (C := RX7) (T := TX7) (N := 6) hx hb hts inlX7 tyX7 tyX7_ok nmX7 hown hK hPD.1 hPD.2 hS 0 rfl rfl 1 (by decide) (hts _ gw_334) (fun _ h9 => h9) rfl (by decide +kernel) rfl rfl (Nat.le_of_ble_eq_true rfl) dX7_append_32 (fun H locs hP hD hS => ?_)
    obtain ⟨f0_2, ef0_2, h⟩ := lvl h
    have hPD : WD G DA (wX7 G h0 a0 f0_2 A0_1) H := by rw [ef0_2]; exact ⟨hP, hD⟩
    clear ef0_2 hP hD
    refine lv_iinc (v := l2 + (-8)) (lv' := [(2, .int (l2 + (-8))), (0, .ref h0), (1, .int p1)]) hx hb dX7_append_35 hl (k := 2) rfl rfl (by decide) rfl (fun ls hl => ?_)
    refine lv_goto (tgt := 3) hx hb dX7_append_38 (by decide) ?_
    exact hk3 A0_1 f0_2 (l2 + (-8)) h _ _ _ hPD hS (lv_sub hl [1, 2, 0] rfl)
set_option maxRecDepth 100000 in
set_option maxHeartbeats 4000000 in
theorem ww_f7_append_l3  (C0 : Cx cX7_append 3 none RX7 p s m args meth c G DA) {h0 : Nat} {a0 : Nat → Nat} {p1 : Int32}   {res : (Nat → Nat → Int32) × (Nat → Int32)}  : ∀ (n : Nat) (A0 : Nat → Nat → Int32) (f0 : Nat → Int32) (l2 : Int32), f7_append_l3 p1  n A0 f0 l2 = some res → ∀ (H : Heap) (locs : List Loc) (ls : Array Slot), WD G DA (wX7 G h0 a0 f0 A0) H → va_S DA s.heap H locs → lv_has ls 3 [(0, .ref h0), (1, .int p1), (2, .int l2)] → W p l e rmX7_append s m args below meth c H locs 0 0 (MQ below (QV G DA (wX7 G h0 a0 res.2 res.1)) args s 0 0 DA) (F0 m 3 ls []) := by
  intro n
  induction n with
  | zero => intro A0 f0 l2 h; cases h
  | succ n ih => intro A0 f0 l2 h; exact ww_f7_append_b3 C0  ih A0 f0 l2 h
set_option maxRecDepth 100000 in
set_option maxHeartbeats 4000000 in
theorem kt_X7_append (l : Launch) (G : Gp) (h0 : Nat) (a0 : Nat → Nat) (f0 : Nat → Int32) (A0 : Nat → Nat → Int32) (p1 : Int32) : ∀ {r : (Nat → Nat → Int32) × (Nat → Int32)}, f7_append f0 A0 p1 = some r → CtrV l yX7_append cX7_append 3 none rmX7_append G [.ref h0, .int p1] (wX7 G h0 a0 f0 A0) (wX7 G h0 a0 r.2 r.1) := by
  intro res h
  refine ctrV_of (cc := cX7_append) (maxL := 3) (ret := none) (by decide +kernel) rfl (Nat.le_of_ble_eq_true rfl) (fun p e s m below meth c DA C0 hP hD ls hl => ?_)
  have hPD : WD G DA (wX7 G h0 a0 f0 A0) s.heap := ⟨hP, hD⟩
  have hS : va_S DA s.heap s.heap [] := va_S.rf
  have hl : lv_has ls 3 [(0, .ref h0), (1, .int p1)] := hl
  obtain ⟨hx, hb, hml, hown, hts⟩ := C0.1
  have hK := C0.2.2.2.1
  unfold f7_append at h
  refine lv_bipush (v := 24) hx hb dX7_append_0 (by decide) ?_
  refine lv_istore_n (lv' := [(2, .int 24), (0, .ref h0), (1, .int p1)]) hx hb dX7_append_2 rfl hl (by decide) rfl (fun ls hl => ?_)
  exact ww_f7_append_l3 C0 NF A0 f0 24 h _ _ _ hPD hS (lv_sub hl [1, 2, 0] rfl)
abbrev rmX7_holds : Room := { frames := 0, cells := 0, slots := 0, locals := 0 }
set_option maxRecDepth 100000 in
set_option maxHeartbeats 4000000 in
theorem kt_X7_holds (l : Launch) (G : Gp) (h0 : Nat) (a0 : Nat → Nat) (f0 : Nat → Int32) (A0 : Nat → Nat → Int32) (p1 : Int32) : CtrI l yX7_holds cX7_holds 2 (some .boolean) rmX7_holds G [.ref h0, .int p1] (wX7 G h0 a0 f0 A0) (f7_holds f0 A0 p1) (wX7 G h0 a0 f0 A0) := by
  obtain ⟨res, h⟩ : ∃ res, f7_holds f0 A0 p1 = res := ⟨_, rfl⟩
  rw [h]
  refine ctrI_of (cc := cX7_holds) (maxL := 2) (ret := (some .boolean)) (by decide +kernel) rfl (Nat.le_of_ble_eq_true rfl) (fun p e s m below meth c DA C0 hP hD ls hl => ?_)
  have hPD : WD G DA (wX7 G h0 a0 f0 A0) s.heap := ⟨hP, hD⟩
  have hS : va_S DA s.heap s.heap [] := va_S.rf
  have hl : lv_has ls 2 [(0, .ref h0), (1, .int p1)] := hl
  obtain ⟨hx, hb, hml, hown, hts⟩ := C0.1
  have hK := C0.2.2.2.1
  unfold f7_holds at h
  refine lv_iload_n hx hb dX7_holds_0 rfl (lv_at hl 1 rfl) ?_
  refine lv_aload_n hx hb dX7_holds_1 rfl (lv_at hl 0 rfl) ?_
  refine va_get (D := G.1) (ci := 7) (v := .int (f0 1)) (C := RX7) (T := TX7) (N := 6) hx hb hts inlX7 hown hK hPD.1 0 rfl rfl 1 (by decide) (hts _ gw_334) (fun _ h9 => h9) rfl dX7_holds_2 ?_
  refine lv_icmp_gt (tgt := 12) hx hb dX7_holds_5 (by decide) (fun cc1 => ?_) (fun cc1 => ?_)
  · have h := (if_pos cc1).symm.trans h
    refine lv_iconst (v := 0) hx hb dX7_holds_12 (by decide) ?_
    subst h
    exact eZ C0 hPD.1 hPD.2 hS rfl rfl dX7_holds_13
  · have h := (if_neg cc1).symm.trans h
    refine lv_iconst (v := 1) hx hb dX7_holds_8 (by decide) ?_
    refine lv_goto (tgt := 13) hx hb dX7_holds_9 (by decide) ?_
    subst h
    exact eZ C0 hPD.1 hPD.2 hS rfl rfl dX7_holds_13
abbrev rmX7_open : Room := { frames := 0, cells := 0, slots := 0, locals := 0 }
set_option maxRecDepth 100000 in
set_option maxHeartbeats 4000000 in
theorem kt_X7_open (l : Launch) (G : Gp) (h0 : Nat) (a0 : Nat → Nat) (f0 : Nat → Int32) (A0 : Nat → Nat → Int32) (p1 : Int32) : CtrV l yX7_open cX7_open 2 none rmX7_open G [.ref h0, .int p1] (wX7 G h0 a0 f0 A0) (wX7 G h0 a0 (f7_open f0 A0 p1) A0) := by
  obtain ⟨res, h⟩ : ∃ res, f7_open f0 A0 p1 = res := ⟨_, rfl⟩
  rw [h]
  refine ctrV_of (cc := cX7_open) (maxL := 2) (ret := none) (by decide +kernel) rfl (Nat.le_of_ble_eq_true rfl) (fun p e s m below meth c DA C0 hP hD ls hl => ?_)
  have hPD : WD G DA (wX7 G h0 a0 f0 A0) s.heap := ⟨hP, hD⟩
  have hS : va_S DA s.heap s.heap [] := va_S.rf
  have hl : lv_has ls 2 [(0, .ref h0), (1, .int p1)] := hl
  obtain ⟨hx, hb, hml, hown, hts⟩ := C0.1
  have hK := C0.2.2.2.1
  unfold f7_open at h
  refine lv_aload_n hx hb dX7_open_0 rfl (lv_at hl 0 rfl) ?_
  refine lv_iconst (v := 0) hx hb dX7_open_1 (by decide) ?_
  refine va_put (D := G.1) (ci := 7) (v := .int 0) (ty := .int) (C := RX7) (T := TX7) (N := 6) hx hb hts inlX7 tyX7 tyX7_ok nmX7 hown hK hPD.1 hPD.2 hS 0 rfl rfl 1 (by decide) (hts _ gw_334) (fun _ h9 => h9) rfl (by decide +kernel) rfl rfl (Nat.le_of_ble_eq_true rfl) dX7_open_2 (fun H locs hP hD hS => ?_)
  obtain ⟨f0_1, ef0_1, h⟩ := lvl h
  have hPD : WD G DA (wX7 G h0 a0 f0_1 A0) H := by rw [ef0_1]; exact ⟨hP, hD⟩
  clear ef0_1 hP hD
  refine lv_aload_n hx hb dX7_open_5 rfl (lv_at hl 0 rfl) ?_
  refine lv_iload_n hx hb dX7_open_6 rfl (lv_at hl 1 rfl) ?_
  refine va_put (D := G.1) (ci := 7) (v := .int p1) (ty := .int) (C := RX7) (T := TX7) (N := 6) hx hb hts inlX7 tyX7 tyX7_ok nmX7 hown hK hPD.1 hPD.2 hS 0 rfl rfl 2 (by decide) (hts _ gw_11) (fun _ h9 => h9) rfl (by decide +kernel) rfl rfl (Nat.le_of_ble_eq_true rfl) dX7_open_7 (fun H locs hP hD hS => ?_)
  obtain ⟨f0_2, ef0_2, h⟩ := lvl h
  have hPD : WD G DA (wX7 G h0 a0 f0_2 A0) H := by rw [ef0_2]; exact ⟨hP, hD⟩
  clear ef0_2 hP hD
  refine lv_aload_n hx hb dX7_open_10 rfl (lv_at hl 0 rfl) ?_
  refine lv_iconst (v := 0) hx hb dX7_open_11 (by decide) ?_
  refine va_put (D := G.1) (ci := 7) (v := .int 0) (ty := .int) (C := RX7) (T := TX7) (N := 6) hx hb hts inlX7 tyX7 tyX7_ok nmX7 hown hK hPD.1 hPD.2 hS 0 rfl rfl 3 (by decide) (hts _ gw_10) (fun _ h9 => h9) rfl (by decide +kernel) rfl rfl (Nat.le_of_ble_eq_true rfl) dX7_open_12 (fun H locs hP hD hS => ?_)
  obtain ⟨f0_3, ef0_3, h⟩ := lvl h
  have hPD : WD G DA (wX7 G h0 a0 f0_3 A0) H := by rw [ef0_3]; exact ⟨hP, hD⟩
  clear ef0_3 hP hD
  refine lv_aload_n hx hb dX7_open_15 rfl (lv_at hl 0 rfl) ?_
  refine lv_iconst (v := 0) hx hb dX7_open_16 (by decide) ?_
  refine va_put (D := G.1) (ci := 7) (v := .int 0) (ty := .int) (C := RX7) (T := TX7) (N := 6) hx hb hts inlX7 tyX7 tyX7_ok nmX7 hown hK hPD.1 hPD.2 hS 0 rfl rfl 4 (by decide) (hts _ gw_9) (fun _ h9 => h9) rfl (by decide +kernel) rfl rfl (Nat.le_of_ble_eq_true rfl) dX7_open_17 (fun H locs hP hD hS => ?_)
  obtain ⟨f0_4, ef0_4, h⟩ := lvl h
  have hPD : WD G DA (wX7 G h0 a0 f0_4 A0) H := by rw [ef0_4]; exact ⟨hP, hD⟩
  clear ef0_4 hP hD
  refine lv_aload_n hx hb dX7_open_20 rfl (lv_at hl 0 rfl) ?_
  refine lv_iconst (v := 0) hx hb dX7_open_21 (by decide) ?_
  refine va_put (D := G.1) (ci := 7) (v := .int 0) (ty := .int) (C := RX7) (T := TX7) (N := 6) hx hb hts inlX7 tyX7 tyX7_ok nmX7 hown hK hPD.1 hPD.2 hS 0 rfl rfl 5 (by decide) (hts _ gw_13) (fun _ h9 => h9) rfl (by decide +kernel) rfl rfl (Nat.le_of_ble_eq_true rfl) dX7_open_22 (fun H locs hP hD hS => ?_)
  obtain ⟨f0_5, ef0_5, h⟩ := lvl h
  have hPD : WD G DA (wX7 G h0 a0 f0_5 A0) H := by rw [ef0_5]; exact ⟨hP, hD⟩
  clear ef0_5 hP hD
  subst h
  exact eV C0 hPD.1 hPD.2 hS dX7_open_25
abbrev rmX7_byteAt : Room := { frames := 1, cells := 0, slots := 0, locals := 21 }
set_option maxRecDepth 100000 in
set_option maxHeartbeats 4000000 in
theorem kt_X7_byteAt (l : Launch) (G : Gp) (h0 : Nat) (a0 : Nat → Nat) (f0 : Nat → Int32) (A0 : Nat → Nat → Int32) (p1 : Int32) : CtrI l yX7_byteAt cX7_byteAt 2 (some .int) rmX7_byteAt G [.ref h0, .int p1] (wX7 G h0 a0 f0 A0) (f7_byteAt f0 A0 p1) (wX7 G h0 a0 f0 A0) := by
  obtain ⟨res, h⟩ : ∃ res, f7_byteAt f0 A0 p1 = res := ⟨_, rfl⟩
  rw [h]
  refine ctrI_of (cc := cX7_byteAt) (maxL := 2) (ret := (some .int)) (by decide +kernel) rfl (Nat.le_of_ble_eq_true rfl) (fun p e s m below meth c DA C0 hP hD ls hl => ?_)
  have hPD : WD G DA (wX7 G h0 a0 f0 A0) s.heap := ⟨hP, hD⟩
  have hS : va_S DA s.heap s.heap [] := va_S.rf
  have hl : lv_has ls 2 [(0, .ref h0), (1, .int p1)] := hl
  obtain ⟨hx, hb, hml, hown, hts⟩ := C0.1
  have hK := C0.2.2.2.1
  unfold f7_byteAt at h
  refine lv_iload_n hx hb dX7_byteAt_0 rfl (lv_at hl 1 rfl) ?_
  refine lv_aload_n hx hb dX7_byteAt_1 rfl (lv_at hl 0 rfl) ?_
  refine va_get (D := G.1) (ci := 7) (v := .int (f0 2)) (C := RX7) (T := TX7) (N := 6) hx hb hts inlX7 hown hK hPD.1 0 rfl rfl 2 (by decide) (hts _ gw_11) (fun _ h9 => h9) rfl dX7_byteAt_2 ?_
  refine lv_icmp_ge (tgt := 19) hx hb dX7_byteAt_5 (by decide) (fun cc1 => ?_) (fun cc1 => ?_)
  · have h := (if_pos cc1).symm.trans h
    refine lv_iconst (v := 0) hx hb dX7_byteAt_19 (by decide) ?_
    subst h
    exact eI C0 hPD.1 hPD.2 hS rfl dX7_byteAt_20
  · have h := (if_neg cc1).symm.trans h
    refine lv_aload_n hx hb dX7_byteAt_8 rfl (lv_at hl 0 rfl) ?_
    refine va_get (D := G.1) (ci := 7) (v := .ref (a0 0)) (C := RX7) (T := TX7) (N := 6) hx hb hts inlX7 hown hK hPD.1 0 rfl rfl 0 (by decide) (hts _ gw_12) (fun _ h9 => h9) rfl dX7_byteAt_9 ?_
    refine lv_iload_n hx hb dX7_byteAt_12 rfl (lv_at hl 1 rfl) ?_
    refine kNI (As := [.ref (a0 0), .int p1]) (rest := []) C0 (kt_X9_at l G (a0 0) 260 (A0 0) p1 (by decide)) gi_U_X9_at (host := "IdleCrimes") (index := 35) (List.mem_of_getElem? (i := 11) rfl) gw_6 gw_7 (n := 2) rfl (by decide +kernel) ⟨rfl, rfl, Nat.le_of_ble_eq_true rfl, Nat.le_of_ble_eq_true rfl⟩ hPD hS [1] [0] [0, 1] (wN := (wX7 G h0 a0 f0 A0)) rfl rfl rfl rfl rfl hl.1 (Nat.le_of_ble_eq_true rfl) dX7_byteAt_13 (fun H locs hPD hS => ?_)
    refine lv_goto (tgt := 20) hx hb dX7_byteAt_16 (by decide) ?_
    subst h
    exact eI C0 hPD.1 hPD.2 hS rfl dX7_byteAt_20
abbrev rmX7_answer : Room := { frames := 0, cells := 0, slots := 0, locals := 0 }
set_option maxRecDepth 100000 in
set_option maxHeartbeats 4000000 in
theorem kt_X7_answer (l : Launch) (G : Gp) (h0 : Nat) (a0 : Nat → Nat) (f0 : Nat → Int32) (A0 : Nat → Nat → Int32) (p1 : Int32) : CtrI l yX7_answer cX7_answer 2 (some .int) rmX7_answer G [.ref h0, .int p1] (wX7 G h0 a0 f0 A0) (f7_answer f0 A0 p1) (wX7 G h0 a0 f0 A0) := by
  obtain ⟨res, h⟩ : ∃ res, f7_answer f0 A0 p1 = res := ⟨_, rfl⟩
  rw [h]
  refine ctrI_of (cc := cX7_answer) (maxL := 2) (ret := (some .int)) (by decide +kernel) rfl (Nat.le_of_ble_eq_true rfl) (fun p e s m below meth c DA C0 hP hD ls hl => ?_)
  have hPD : WD G DA (wX7 G h0 a0 f0 A0) s.heap := ⟨hP, hD⟩
  have hS : va_S DA s.heap s.heap [] := va_S.rf
  have hl : lv_has ls 2 [(0, .ref h0), (1, .int p1)] := hl
  obtain ⟨hx, hb, hml, hown, hts⟩ := C0.1
  have hK := C0.2.2.2.1
  unfold f7_answer at h
  refine lv_aload_n hx hb dX7_answer_0 rfl (lv_at hl 0 rfl) ?_
  refine va_get (D := G.1) (ci := 7) (v := .int (f0 4)) (C := RX7) (T := TX7) (N := 6) hx hb hts inlX7 hown hK hPD.1 0 rfl rfl 4 (by decide) (hts _ gw_9) (fun _ h9 => h9) rfl dX7_answer_1 ?_
  refine lv_if_ne (tgt := 11) hx hb dX7_answer_4 (by decide) (fun cc1 => ?_) (fun cc1 => ?_)
  · have h := (if_neg cc1).symm.trans h
    refine lv_sipush (v := (-1000)) hx hb dX7_answer_11 (by decide) ?_
    refine lv_aload_n hx hb dX7_answer_14 rfl (lv_at hl 0 rfl) ?_
    refine va_get (D := G.1) (ci := 7) (v := .int (f0 4)) (C := RX7) (T := TX7) (N := 6) hx hb hts inlX7 hown hK hPD.1 0 rfl rfl 4 (by decide) (hts _ gw_9) (fun _ h9 => h9) rfl dX7_answer_15 ?_
    refine lv_imul hx hb dX7_answer_18 ?_
    refine lv_aload_n hx hb dX7_answer_19 rfl (lv_at hl 0 rfl) ?_
    refine va_get (D := G.1) (ci := 7) (v := .int (f0 5)) (C := RX7) (T := TX7) (N := 6) hx hb hts inlX7 hown hK hPD.1 0 rfl rfl 5 (by decide) (hts _ gw_13) (fun _ h9 => h9) rfl dX7_answer_20 ?_
    refine lv_isub hx hb dX7_answer_23 ?_
    subst h
    exact eI C0 hPD.1 hPD.2 hS rfl dX7_answer_24
  · have h := (if_pos cc1).symm.trans h
    refine lv_iload_n hx hb dX7_answer_7 rfl (lv_at hl 1 rfl) ?_
    refine lv_goto (tgt := 24) hx hb dX7_answer_8 (by decide) ?_
    subst h
    exact eI C0 hPD.1 hPD.2 hS rfl dX7_answer_24
abbrev rmX8_add : Room := { frames := 1, cells := 0, slots := 0, locals := 22 }
set_option maxRecDepth 100000 in
set_option maxHeartbeats 4000000 in
theorem ww_f8_add_b35  (C0 : Cx cX8_add 4 none RX8 p s m args meth c G DA) {h0 : Nat} {a0 : Nat → Nat} {p1 : Int32} {p2 : Int32}   {res : (Nat → Nat → Int32) × (Nat → Int32)}  : ∀ (A0 : Nat → Nat → Int32) (f0 : Nat → Int32) (l3 : Int32), f8_add_b35 p1 p2  A0 f0 l3 = some res → ∀ (H : Heap) (locs : List Loc) (ls : Array Slot), WD G DA (wX8 G h0 a0 f0 A0) H → va_S DA s.heap H locs → lv_has ls 4 [(0, .ref h0), (1, .int p1), (2, .int p2), (3, .int l3)] → W p l e rmX8_add s m args below meth c H locs 0 0 (MQ below (QV G DA (wX8 G h0 a0 res.2 res.1)) args s 0 0 DA) (F0 m 35 ls []) := by
  obtain ⟨hx, hb, hml, hown, hts⟩ := C0.1
  have hK := C0.2.2.2.1
  intro A0 f0 l3 h _ _ _ hPD hS hl
  unfold f8_add_b35 at h
  refine lv_aload_n hx hb dX8_add_35 rfl (lv_at hl 0 rfl) ?_
  refine va_get (D := G.1) (ci := 8) (v := .ref (a0 0)) (C := RX8) (T := TX8) (N := 3) hx hb hts inlX8 hown hK hPD.1 0 rfl rfl 0 (by decide) (hts _ gw_335) (fun _ h9 => h9) rfl dX8_add_36 ?_
  refine lv_iload_n hx hb dX8_add_39 rfl (lv_at hl 1 rfl) ?_
  refine lv_iload_n hx hb dX8_add_40 rfl (lv_at hl 3 rfl) ?_
  refine lv_iload_n hx hb dX8_add_41 rfl (lv_at hl 2 rfl) ?_
  refine lv_bipush (v := 16) hx hb dX8_add_42 (by decide) ?_
  refine lv_ishl hx hb dX8_add_44 ?_
  refine lv_ior hx hb dX8_add_45 ?_
  refine kNV (As := [.ref (a0 0), .int p1, .int (l3 ||| (shl p2 16))]) (rest := []) C0 (kt_X9_put l G (a0 0) 65536 (A0 0) p1 (l3 ||| (shl p2 16)) (by decide)) gi_U_X9_put (host := "IdleCrimes") (index := 47) (List.mem_of_getElem? (i := 36) rfl) gw_6 gw_19 (n := 3) rfl (by decide +kernel) ⟨rfl, rfl, Nat.le_of_ble_eq_true rfl, Nat.le_of_ble_eq_true rfl⟩ hPD hS [1] [0, 2] [0, 2, 1] (wN := (wX8 G h0 a0 f0 (updA A0 0 (f9_put 65536 (A0 0) p1 (l3 ||| (shl p2 16)))))) rfl rfl rfl rfl rfl hl.1 (Nat.le_of_ble_eq_true rfl) dX8_add_46 (fun H locs hPD hS => ?_)
  obtain ⟨A0_1, eA0_1, h⟩ := lvl h
  have hPD : WD G DA (wX8 G h0 a0 f0 A0_1) H := by rw [eA0_1]; exact hPD
  clear eA0_1
  obtain rfl := Option.some.inj h
  exact eV C0 hPD.1 hPD.2 hS dX8_add_49
set_option maxRecDepth 100000 in
set_option maxHeartbeats 4000000 in
theorem kt_X8_add (l : Launch) (G : Gp) (h0 : Nat) (a0 : Nat → Nat) (f0 : Nat → Int32) (A0 : Nat → Nat → Int32) (p1 : Int32) (p2 : Int32) : ∀ {r : (Nat → Nat → Int32) × (Nat → Int32)}, f8_add f0 A0 p1 p2 = some r → CtrV l yX8_add cX8_add 4 none rmX8_add G [.ref h0, .int p1, .int p2] (wX8 G h0 a0 f0 A0) (wX8 G h0 a0 r.2 r.1) := by
  intro res h
  refine ctrV_of (cc := cX8_add) (maxL := 4) (ret := none) (by decide +kernel) rfl (Nat.le_of_ble_eq_true rfl) (fun p e s m below meth c DA C0 hP hD ls hl => ?_)
  have hPD : WD G DA (wX8 G h0 a0 f0 A0) s.heap := ⟨hP, hD⟩
  have hS : va_S DA s.heap s.heap [] := va_S.rf
  have hl : lv_has ls 4 [(0, .ref h0), (1, .int p1), (2, .int p2)] := hl
  obtain ⟨hx, hb, hml, hown, hts⟩ := C0.1
  have hK := C0.2.2.2.1
  unfold f8_add at h
  refine lv_aload_n hx hb dX8_add_0 rfl (lv_at hl 0 rfl) ?_
  refine va_get (D := G.1) (ci := 8) (v := .ref (a0 0)) (C := RX8) (T := TX8) (N := 3) hx hb hts inlX8 hown hK hPD.1 0 rfl rfl 0 (by decide) (hts _ gw_335) (fun _ h9 => h9) rfl dX8_add_1 ?_
  refine lv_iload_n hx hb dX8_add_4 rfl (lv_at hl 1 rfl) ?_
  refine kNI (As := [.ref (a0 0), .int p1]) (rest := []) C0 (kt_X9_at l G (a0 0) 65536 (A0 0) p1 (by decide)) gi_U_X9_at (host := "IdleCrimes") (index := 34) (List.mem_of_getElem? (i := 35) rfl) gw_6 gw_7 (n := 2) rfl (by decide +kernel) ⟨rfl, rfl, Nat.le_of_ble_eq_true rfl, Nat.le_of_ble_eq_true rfl⟩ hPD hS [1] [0, 2] [0, 2, 1] (wN := (wX8 G h0 a0 f0 A0)) rfl rfl rfl rfl rfl hl.1 (Nat.le_of_ble_eq_true rfl) dX8_add_5 (fun H locs hPD hS => ?_)
  refine lv_istore_n (lv' := [(3, .int (f9_at 65536 (A0 0) p1)), (0, .ref h0), (1, .int p1), (2, .int p2)]) hx hb dX8_add_8 rfl hl (by decide) rfl (fun ls hl => ?_)
  refine lv_iload_n hx hb dX8_add_9 rfl (lv_at hl 0 rfl) ?_
  refine lv_if_ne (tgt := 35) hx hb dX8_add_10 (by decide) (fun cc1 => ?_) (fun cc1 => ?_)
  · have h := (if_neg cc1).symm.trans h
    exact ww_f8_add_b35 C0 A0 f0 (f9_at 65536 (A0 0) p1) h _ _ _ hPD hS (lv_sub hl [1, 2, 3, 0] rfl)
  · have h := (if_pos cc1).symm.trans h
    refine lv_aload_n hx hb dX8_add_13 rfl (lv_at hl 1 rfl) ?_
    refine va_get (D := G.1) (ci := 8) (v := .ref (a0 1)) (C := RX8) (T := TX8) (N := 3) hx hb hts inlX8 hown hK hPD.1 0 rfl rfl 1 (by decide) (hts _ gw_336) (fun _ h9 => h9) rfl dX8_add_14 ?_
    refine lv_aload_n hx hb dX8_add_17 rfl (lv_at hl 1 rfl) ?_
    refine va_get (D := G.1) (ci := 8) (v := .int (f0 2)) (C := RX8) (T := TX8) (N := 3) hx hb hts inlX8 hown hK hPD.1 0 rfl rfl 2 (by decide) (hts _ gw_337) (fun _ h9 => h9) rfl dX8_add_18 ?_
    refine lv_iload_n hx hb dX8_add_21 rfl (lv_at hl 2 rfl) ?_
    refine kNV (As := [.ref (a0 1), .int (f0 2), .int p1]) (rest := []) C0 (kt_X9_put l G (a0 1) 16384 (A0 1) (f0 2) p1 (by decide)) gi_U_X9_put (host := "IdleCrimes") (index := 47) (List.mem_of_getElem? (i := 36) rfl) gw_6 gw_19 (n := 3) rfl (by decide +kernel) ⟨rfl, rfl, Nat.le_of_ble_eq_true rfl, Nat.le_of_ble_eq_true rfl⟩ hPD hS [2] [0, 1] [0, 1, 2] (wN := (wX8 G h0 a0 f0 (updA A0 1 (f9_put 16384 (A0 1) (f0 2) p1)))) rfl rfl rfl rfl rfl hl.1 (Nat.le_of_ble_eq_true rfl) dX8_add_22 (fun H locs hPD hS => ?_)
    obtain ⟨A0_2, eA0_2, h⟩ := lvl h
    have hPD : WD G DA (wX8 G h0 a0 f0 A0_2) H := by rw [eA0_2]; exact hPD
    clear eA0_2
    refine lv_aload_n hx hb dX8_add_25 rfl (lv_at hl 1 rfl) ?_
    refine lv_dup hx hb dX8_add_26 rfl ?_
    refine va_get (D := G.1) (ci := 8) (v := .int (f0 2)) (C := RX8) (T := TX8) (N := 3) hx hb hts inlX8 hown hK hPD.1 0 rfl rfl 2 (by decide) (hts _ gw_337) (fun _ h9 => h9) rfl dX8_add_27 ?_
    refine lv_iconst (v := 1) hx hb dX8_add_30 (by decide) ?_
    refine lv_iadd hx hb dX8_add_31 ?_
    refine va_put (D := G.1) (ci := 8) (v := .int ((f0 2) + 1)) (ty := .int) (C := RX8) (T := TX8) (N := 3) hx hb hts inlX8 tyX8 tyX8_ok nmX8 hown hK hPD.1 hPD.2 hS 0 rfl rfl 2 (by decide) (hts _ gw_337) (fun _ h9 => h9) rfl (by decide +kernel) rfl rfl (Nat.le_of_ble_eq_true rfl) dX8_add_32 (fun H locs hP hD hS => ?_)
    obtain ⟨f0_3, ef0_3, h⟩ := lvl h
    have hPD : WD G DA (wX8 G h0 a0 f0_3 A0_2) H := by rw [ef0_3]; exact ⟨hP, hD⟩
    clear ef0_3 hP hD
    exact ww_f8_add_b35 C0 A0_2 f0_3 (f9_at 65536 (A0 0) p1) h _ _ _ hPD hS (lv_sub hl [1, 2, 3, 0] rfl)
abbrev rmX8_settle : Room := { frames := 1, cells := 0, slots := 0, locals := 22 }
set_option maxRecDepth 100000 in
set_option maxHeartbeats 4000000 in
theorem ww_f8_settle_b2  (C0 : Cx cX8_settle 4 none RX8 p s m args meth c G DA) {h0 : Nat} {a0 : Nat → Nat} {f0 : Nat → Int32}  {k2 : (Nat → Nat → Int32) → Int32 → Option ((Nat → Nat → Int32))} {res : (Nat → Nat → Int32)}  (hk2 : ∀ (A0 : Nat → Nat → Int32) (l1 : Int32), k2 A0 l1 = some res → ∀ (H : Heap) (locs : List Loc) (ls : Array Slot), WD G DA (wX8 G h0 a0 f0 A0) H → va_S DA s.heap H locs → lv_has ls 4 [(0, .ref h0), (1, .int l1)] → W p l e rmX8_settle s m args below meth c H locs 0 0 (MQ below (QV G DA (wX8 G h0 a0 f0 res)) args s 0 0 DA) (F0 m 2 ls [])) : ∀ (A0 : Nat → Nat → Int32) (l1 : Int32), f8_settle_b2 f0  k2 A0 l1 = some res → ∀ (H : Heap) (locs : List Loc) (ls : Array Slot), WD G DA (wX8 G h0 a0 f0 A0) H → va_S DA s.heap H locs → lv_has ls 4 [(0, .ref h0), (1, .int l1)] → W p l e rmX8_settle s m args below meth c H locs 0 0 (MQ below (QV G DA (wX8 G h0 a0 f0 res)) args s 0 0 DA) (F0 m 2 ls []) := by
  obtain ⟨hx, hb, hml, hown, hts⟩ := C0.1
  have hK := C0.2.2.2.1
  intro A0 l1 h _ _ _ hPD hS hl
  unfold f8_settle_b2 at h
  refine lv_iload_n hx hb dX8_settle_2 rfl (lv_at hl 1 rfl) ?_
  refine lv_aload_n hx hb dX8_settle_3 rfl (lv_at hl 0 rfl) ?_
  refine va_get (D := G.1) (ci := 8) (v := .int (f0 2)) (C := RX8) (T := TX8) (N := 3) hx hb hts inlX8 hown hK hPD.1 0 rfl rfl 2 (by decide) (hts _ gw_337) (fun _ h9 => h9) rfl dX8_settle_4 ?_
  refine lv_icmp_ge (tgt := 51) hx hb dX8_settle_7 (by decide) (fun cc1 => ?_) (fun cc1 => ?_)
  · have h := (if_pos cc1).symm.trans h
    obtain rfl := Option.some.inj h
    exact eV C0 hPD.1 hPD.2 hS dX8_settle_51
  · have h := (if_neg cc1).symm.trans h
    refine lv_aload_n hx hb dX8_settle_10 rfl (lv_at hl 0 rfl) ?_
    refine va_get (D := G.1) (ci := 8) (v := .ref (a0 1)) (C := RX8) (T := TX8) (N := 3) hx hb hts inlX8 hown hK hPD.1 0 rfl rfl 1 (by decide) (hts _ gw_336) (fun _ h9 => h9) rfl dX8_settle_11 ?_
    refine lv_iload_n hx hb dX8_settle_14 rfl (lv_at hl 1 rfl) ?_
    refine kNI (As := [.ref (a0 1), .int l1]) (rest := []) C0 (kt_X9_at l G (a0 1) 16384 (A0 1) l1 (by decide)) gi_U_X9_at (host := "IdleCrimes") (index := 34) (List.mem_of_getElem? (i := 35) rfl) gw_6 gw_7 (n := 2) rfl (by decide +kernel) ⟨rfl, rfl, Nat.le_of_ble_eq_true rfl, Nat.le_of_ble_eq_true rfl⟩ hPD hS [2] [0, 1] [0, 1, 2] (wN := (wX8 G h0 a0 f0 A0)) rfl rfl rfl rfl rfl hl.1 (Nat.le_of_ble_eq_true rfl) dX8_settle_15 (fun H locs hPD hS => ?_)
    refine lv_istore_n (lv' := [(2, .int (f9_at 16384 (A0 1) l1)), (0, .ref h0), (1, .int l1)]) hx hb dX8_settle_18 rfl hl (by decide) rfl (fun ls hl => ?_)
    refine lv_aload_n hx hb dX8_settle_19 rfl (lv_at hl 1 rfl) ?_
    refine va_get (D := G.1) (ci := 8) (v := .ref (a0 0)) (C := RX8) (T := TX8) (N := 3) hx hb hts inlX8 hown hK hPD.1 0 rfl rfl 0 (by decide) (hts _ gw_335) (fun _ h9 => h9) rfl dX8_settle_20 ?_
    refine lv_iload_n hx hb dX8_settle_23 rfl (lv_at hl 0 rfl) ?_
    refine kNI (As := [.ref (a0 0), .int (f9_at 16384 (A0 1) l1)]) (rest := []) C0 (kt_X9_at l G (a0 0) 65536 (A0 0) (f9_at 16384 (A0 1) l1) (by decide)) gi_U_X9_at (host := "IdleCrimes") (index := 34) (List.mem_of_getElem? (i := 35) rfl) gw_6 gw_7 (n := 2) rfl (by decide +kernel) ⟨rfl, rfl, Nat.le_of_ble_eq_true rfl, Nat.le_of_ble_eq_true rfl⟩ hPD hS [1] [0, 2] [0, 2, 1] (wN := (wX8 G h0 a0 f0 A0)) rfl rfl rfl rfl rfl hl.1 (Nat.le_of_ble_eq_true rfl) dX8_settle_24 (fun H locs hPD hS => ?_)
    refine lv_istore_n (lv' := [(3, .int (f9_at 65536 (A0 0) (f9_at 16384 (A0 1) l1))), (2, .int (f9_at 16384 (A0 1) l1)), (0, .ref h0), (1, .int l1)]) hx hb dX8_settle_27 rfl hl (by decide) rfl (fun ls hl => ?_)
    refine lv_aload_n hx hb dX8_settle_28 rfl (lv_at hl 2 rfl) ?_
    refine va_get (D := G.1) (ci := 8) (v := .ref (a0 0)) (C := RX8) (T := TX8) (N := 3) hx hb hts inlX8 hown hK hPD.1 0 rfl rfl 0 (by decide) (hts _ gw_335) (fun _ h9 => h9) rfl dX8_settle_29 ?_
    refine lv_iload_n hx hb dX8_settle_32 rfl (lv_at hl 1 rfl) ?_
    refine lv_iload_n hx hb dX8_settle_33 rfl (lv_at hl 0 rfl) ?_
    refine lv_iload_n hx hb dX8_settle_34 rfl (lv_at hl 0 rfl) ?_
    refine lv_bipush (v := 16) hx hb dX8_settle_35 (by decide) ?_
    refine lv_iushr (v := ushr (f9_at 65536 (A0 0) (f9_at 16384 (A0 1) l1)) 16) hx hb dX8_settle_37 rfl ?_
    refine lv_ior hx hb dX8_settle_38 ?_
    refine lv_ldc (v := 65535) hx hb hown (hts _ gw_338) dX8_settle_39 ?_
    refine lv_iand hx hb dX8_settle_41 ?_
    refine kNV (As := [.ref (a0 0), .int (f9_at 16384 (A0 1) l1), .int (((f9_at 65536 (A0 0) (f9_at 16384 (A0 1) l1)) ||| (ushr (f9_at 65536 (A0 0) (f9_at 16384 (A0 1) l1)) 16)) &&& 65535)]) (rest := []) C0 (kt_X9_put l G (a0 0) 65536 (A0 0) (f9_at 16384 (A0 1) l1) (((f9_at 65536 (A0 0) (f9_at 16384 (A0 1) l1)) ||| (ushr (f9_at 65536 (A0 0) (f9_at 16384 (A0 1) l1)) 16)) &&& 65535) (by decide)) gi_U_X9_put (host := "IdleCrimes") (index := 47) (List.mem_of_getElem? (i := 36) rfl) gw_6 gw_19 (n := 3) rfl (by decide +kernel) ⟨rfl, rfl, Nat.le_of_ble_eq_true rfl, Nat.le_of_ble_eq_true rfl⟩ hPD hS [1] [0, 2] [0, 2, 1] (wN := (wX8 G h0 a0 f0 (updA A0 0 (f9_put 65536 (A0 0) (f9_at 16384 (A0 1) l1) (((f9_at 65536 (A0 0) (f9_at 16384 (A0 1) l1)) ||| (ushr (f9_at 65536 (A0 0) (f9_at 16384 (A0 1) l1)) 16)) &&& 65535))))) rfl rfl rfl rfl rfl hl.1 (Nat.le_of_ble_eq_true rfl) dX8_settle_42 (fun H locs hPD hS => ?_)
    obtain ⟨A0_1, eA0_1, h⟩ := lvl h
    have hPD : WD G DA (wX8 G h0 a0 f0 A0_1) H := by rw [eA0_1]; exact hPD
    clear eA0_1
    refine lv_iinc (v := l1 + 1) (lv' := [(1, .int (l1 + 1)), (3, .int (f9_at 65536 (A0 0) (f9_at 16384 (A0 1) l1))), (2, .int (f9_at 16384 (A0 1) l1)), (0, .ref h0)]) hx hb dX8_settle_45 hl (k := 3) rfl rfl (by decide) rfl (fun ls hl => ?_)
    refine lv_goto (tgt := 2) hx hb dX8_settle_48 (by decide) ?_
    exact hk2 A0_1 (l1 + 1) h _ _ _ hPD hS (lv_sub hl [3, 0] rfl)
set_option maxRecDepth 100000 in
set_option maxHeartbeats 4000000 in
theorem ww_f8_settle_l2  (C0 : Cx cX8_settle 4 none RX8 p s m args meth c G DA) {h0 : Nat} {a0 : Nat → Nat} {f0 : Nat → Int32}   {res : (Nat → Nat → Int32)}  : ∀ (n : Nat) (A0 : Nat → Nat → Int32) (l1 : Int32), f8_settle_l2 f0  n A0 l1 = some res → ∀ (H : Heap) (locs : List Loc) (ls : Array Slot), WD G DA (wX8 G h0 a0 f0 A0) H → va_S DA s.heap H locs → lv_has ls 4 [(0, .ref h0), (1, .int l1)] → W p l e rmX8_settle s m args below meth c H locs 0 0 (MQ below (QV G DA (wX8 G h0 a0 f0 res)) args s 0 0 DA) (F0 m 2 ls []) := by
  intro n
  induction n with
  | zero => intro A0 l1 h; cases h
  | succ n ih => intro A0 l1 h; exact ww_f8_settle_b2 C0  ih A0 l1 h
set_option maxRecDepth 100000 in
set_option maxHeartbeats 4000000 in
theorem kt_X8_settle (l : Launch) (G : Gp) (h0 : Nat) (a0 : Nat → Nat) (f0 : Nat → Int32) (A0 : Nat → Nat → Int32) : ∀ {r : (Nat → Nat → Int32)}, f8_settle f0 A0 = some r → CtrV l yX8_settle cX8_settle 4 none rmX8_settle G [.ref h0] (wX8 G h0 a0 f0 A0) (wX8 G h0 a0 f0 r) := by
  intro res h
  refine ctrV_of (cc := cX8_settle) (maxL := 4) (ret := none) (by decide +kernel) rfl (Nat.le_of_ble_eq_true rfl) (fun p e s m below meth c DA C0 hP hD ls hl => ?_)
  have hPD : WD G DA (wX8 G h0 a0 f0 A0) s.heap := ⟨hP, hD⟩
  have hS : va_S DA s.heap s.heap [] := va_S.rf
  have hl : lv_has ls 4 [(0, .ref h0)] := hl
  obtain ⟨hx, hb, hml, hown, hts⟩ := C0.1
  have hK := C0.2.2.2.1
  unfold f8_settle at h
  refine lv_iconst (v := 0) hx hb dX8_settle_0 (by decide) ?_
  refine lv_istore_n (lv' := [(1, .int 0), (0, .ref h0)]) hx hb dX8_settle_1 rfl hl (by decide) rfl (fun ls hl => ?_)
  exact ww_f8_settle_l2 C0 NF A0 0 h _ _ _ hPD hS (lv_sub hl [1, 0] rfl)
abbrev rmX8_goOn : Room := { frames := 3, cells := 0, slots := 0, locals := 66 }
set_option maxRecDepth 100000 in
set_option maxHeartbeats 4000000 in
theorem ww_f8_goOn_b43  (C0 : Cx cX8_goOn 7 none RX8 p s m args meth c G DA) {h0 : Nat} {a0 : Nat → Nat} {h1 : Nat} {a1 : Nat → Nat} {f1 : Nat → Int32} {A1 : Nat → Nat → Int32}  {k7 : (Nat → Nat → Int32) → (Nat → Int32) → Int32 → Int32 → Option ((Nat → Nat → Int32) × (Nat → Int32))} {k43 : (Nat → Nat → Int32) → (Nat → Int32) → Int32 → Int32 → Int32 → Int32 → Int32 → Option ((Nat → Nat → Int32) × (Nat → Int32))} {res : (Nat → Nat → Int32) × (Nat → Int32)} (hk7 : ∀ (A0 : Nat → Nat → Int32) (f0 : Nat → Int32) (l2 : Int32) (l3 : Int32), k7 A0 f0 l2 l3 = some res → ∀ (H : Heap) (locs : List Loc) (ls : Array Slot), WD G DA (wX8 G h0 a0 f0 A0 ++ (wX1 G h1 a1 f1 A1)) H → va_S DA s.heap H locs → lv_has ls 7 [(0, .ref h0), (1, .ref h1), (2, .int l2), (3, .int l3)] → W p l e rmX8_goOn s m args below meth c H locs 0 0 (MQ below (QV G DA (wX8 G h0 a0 res.2 res.1 ++ (wX1 G h1 a1 f1 A1))) args s 0 0 DA) (F0 m 7 ls [])) (hk43 : ∀ (A0 : Nat → Nat → Int32) (f0 : Nat → Int32) (l2 : Int32) (l3 : Int32) (l4 : Int32) (l5 : Int32) (l6 : Int32), k43 A0 f0 l2 l3 l4 l5 l6 = some res → ∀ (H : Heap) (locs : List Loc) (ls : Array Slot), WD G DA (wX8 G h0 a0 f0 A0 ++ (wX1 G h1 a1 f1 A1)) H → va_S DA s.heap H locs → lv_has ls 7 [(0, .ref h0), (1, .ref h1), (2, .int l2), (3, .int l3), (4, .int l4), (5, .int l5), (6, .int l6)] → W p l e rmX8_goOn s m args below meth c H locs 0 0 (MQ below (QV G DA (wX8 G h0 a0 res.2 res.1 ++ (wX1 G h1 a1 f1 A1))) args s 0 0 DA) (F0 m 43 ls [])) : ∀ (A0 : Nat → Nat → Int32) (f0 : Nat → Int32) (l2 : Int32) (l3 : Int32) (l4 : Int32) (l5 : Int32) (l6 : Int32), f8_goOn_b43 f1 A1 k7 k43 A0 f0 l2 l3 l4 l5 l6 = some res → ∀ (H : Heap) (locs : List Loc) (ls : Array Slot), WD G DA (wX8 G h0 a0 f0 A0 ++ (wX1 G h1 a1 f1 A1)) H → va_S DA s.heap H locs → lv_has ls 7 [(0, .ref h0), (1, .ref h1), (2, .int l2), (3, .int l3), (4, .int l4), (5, .int l5), (6, .int l6)] → W p l e rmX8_goOn s m args below meth c H locs 0 0 (MQ below (QV G DA (wX8 G h0 a0 res.2 res.1 ++ (wX1 G h1 a1 f1 A1))) args s 0 0 DA) (F0 m 43 ls []) := by
  obtain ⟨hx, hb, hml, hown, hts⟩ := C0.1
  have hK := C0.2.2.2.1
  intro A0 f0 l2 l3 l4 l5 l6 h _ _ _ hPD hS hl
  unfold f8_goOn_b43 at h
  refine lv_iload hx hb dX8_goOn_43 (lv_at hl 6 rfl) ?_
  refine lv_bipush (v := 16) hx hb dX8_goOn_45 (by decide) ?_
  refine lv_icmp_ge (tgt := 81) hx hb dX8_goOn_47 (by decide) (fun cc1 => ?_) (fun cc1 => ?_)
  · have h := (if_pos cc1).symm.trans h
    refine lv_iinc (v := l3 + 1) (lv' := [(3, .int (l3 + 1)), (0, .ref h0), (1, .ref h1), (2, .int l2), (4, .int l4), (5, .int l5), (6, .int l6)]) hx hb dX8_goOn_81 hl (k := 3) rfl rfl (by decide) rfl (fun ls hl => ?_)
    refine lv_goto (tgt := 7) hx hb dX8_goOn_84 (by decide) ?_
    exact hk7 A0 f0 l2 (l3 + 1) h _ _ _ hPD hS (lv_sub hl [1, 2, 3, 0] rfl)
  · have h := (if_neg cc1).symm.trans h
    refine lv_iload hx hb dX8_goOn_50 (lv_at hl 5 rfl) ?_
    refine lv_iload hx hb dX8_goOn_52 (lv_at hl 6 rfl) ?_
    refine kNI (As := [.int l5, .int l6]) (rest := []) C0 (kt_X9_has l G  l5 l6) gi_U_X9_has (host := "IdleCrimes") (index := 55) (List.mem_of_getElem? (i := 37) rfl) gw_6 gw_73 (n := 2) rfl (by decide +kernel) ⟨rfl, rfl, Nat.le_of_ble_eq_true rfl, Nat.le_of_ble_eq_true rfl⟩ hPD hS [] [0, 1, 2, 3, 4, 5, 6] [0, 1, 2, 3, 4, 5, 6] (wN := (wX8 G h0 a0 f0 A0 ++ (wX1 G h1 a1 f1 A1))) rfl rfl rfl rfl rfl hl.1 (Nat.le_of_ble_eq_true rfl) dX8_goOn_54 (fun H locs hPD hS => ?_)
    refine lv_if_eq (tgt := 75) hx hb dX8_goOn_57 (by decide) (fun cc1 => ?_) (fun cc1 => ?_)
    · have h := (if_pos cc1).symm.trans h
      refine lv_iinc (v := l6 + 1) (lv' := [(6, .int (l6 + 1)), (0, .ref h0), (1, .ref h1), (2, .int l2), (3, .int l3), (4, .int l4), (5, .int l5)]) hx hb dX8_goOn_75 hl (k := 6) rfl rfl (by decide) rfl (fun ls hl => ?_)
      refine lv_goto (tgt := 43) hx hb dX8_goOn_78 (by decide) ?_
      exact hk43 A0 f0 l2 l3 l4 l5 (l6 + 1) h _ _ _ hPD hS (lv_sub hl [1, 2, 3, 4, 5, 6, 0] rfl)
    · have h := (if_neg cc1).symm.trans h
      refine lv_aload_n hx hb dX8_goOn_60 rfl (lv_at hl 0 rfl) ?_
      refine lv_iload hx hb dX8_goOn_61 (lv_at hl 4 rfl) ?_
      refine lv_iconst (v := 1) hx hb dX8_goOn_63 (by decide) ?_
      refine lv_iload hx hb dX8_goOn_64 (lv_at hl 6 rfl) ?_
      refine lv_ishl hx hb dX8_goOn_66 ?_
      refine lv_ior hx hb dX8_goOn_67 ?_
      refine lv_iconst (v := 1) hx hb dX8_goOn_68 (by decide) ?_
      refine lv_iload hx hb dX8_goOn_69 (lv_at hl 6 rfl) ?_
      refine lv_ishl hx hb dX8_goOn_71 ?_
      obtain ⟨q_2, hq_2, h⟩ := ob2 h
      refine kVV (As := [.int (l4 ||| (shl 1 l6)), .int (shl 1 l6)]) (rest := []) C0 (kt_X8_add l G h0 a0 f0 A0 (l4 ||| (shl 1 l6)) (shl 1 l6) hq_2) gi_V_X8_23_X8_add (n := 2) rfl (by decide +kernel) rfl ⟨rfl, rfl, Nat.le_of_ble_eq_true rfl, Nat.le_of_ble_eq_true rfl⟩ hPD hS 0 8 rfl rfl rfl [0, 1, 2] [3, 4, 5, 6] [4, 5, 6, 0, 1, 2, 3] (wN := (wX8 G h0 a0 q_2.2 q_2.1 ++ (wX1 G h1 a1 f1 A1))) rfl rfl rfl rfl rfl hl.1 (Nat.le_of_ble_eq_true rfl) dX8_goOn_72 (fun H locs hPD hS => ?_)
      refine lv_iinc (v := l6 + 1) (lv' := [(6, .int (l6 + 1)), (0, .ref h0), (1, .ref h1), (2, .int l2), (3, .int l3), (4, .int l4), (5, .int l5)]) hx hb dX8_goOn_75 hl (k := 6) rfl rfl (by decide) rfl (fun ls hl => ?_)
      refine lv_goto (tgt := 43) hx hb dX8_goOn_78 (by decide) ?_
      exact hk43 q_2.1 q_2.2 l2 l3 l4 l5 (l6 + 1) h _ _ _ hPD hS (lv_sub hl [1, 2, 3, 4, 5, 6, 0] rfl)
set_option maxRecDepth 100000 in
set_option maxHeartbeats 4000000 in
theorem ww_f8_goOn_l43  (C0 : Cx cX8_goOn 7 none RX8 p s m args meth c G DA) {h0 : Nat} {a0 : Nat → Nat} {h1 : Nat} {a1 : Nat → Nat} {f1 : Nat → Int32} {A1 : Nat → Nat → Int32}  {k7 : (Nat → Nat → Int32) → (Nat → Int32) → Int32 → Int32 → Option ((Nat → Nat → Int32) × (Nat → Int32))} {res : (Nat → Nat → Int32) × (Nat → Int32)} (hk7 : ∀ (A0 : Nat → Nat → Int32) (f0 : Nat → Int32) (l2 : Int32) (l3 : Int32), k7 A0 f0 l2 l3 = some res → ∀ (H : Heap) (locs : List Loc) (ls : Array Slot), WD G DA (wX8 G h0 a0 f0 A0 ++ (wX1 G h1 a1 f1 A1)) H → va_S DA s.heap H locs → lv_has ls 7 [(0, .ref h0), (1, .ref h1), (2, .int l2), (3, .int l3)] → W p l e rmX8_goOn s m args below meth c H locs 0 0 (MQ below (QV G DA (wX8 G h0 a0 res.2 res.1 ++ (wX1 G h1 a1 f1 A1))) args s 0 0 DA) (F0 m 7 ls [])) : ∀ (n : Nat) (A0 : Nat → Nat → Int32) (f0 : Nat → Int32) (l2 : Int32) (l3 : Int32) (l4 : Int32) (l5 : Int32) (l6 : Int32), f8_goOn_l43 f1 A1 k7 n A0 f0 l2 l3 l4 l5 l6 = some res → ∀ (H : Heap) (locs : List Loc) (ls : Array Slot), WD G DA (wX8 G h0 a0 f0 A0 ++ (wX1 G h1 a1 f1 A1)) H → va_S DA s.heap H locs → lv_has ls 7 [(0, .ref h0), (1, .ref h1), (2, .int l2), (3, .int l3), (4, .int l4), (5, .int l5), (6, .int l6)] → W p l e rmX8_goOn s m args below meth c H locs 0 0 (MQ below (QV G DA (wX8 G h0 a0 res.2 res.1 ++ (wX1 G h1 a1 f1 A1))) args s 0 0 DA) (F0 m 43 ls []) := by
  intro n
  induction n with
  | zero => intro A0 f0 l2 l3 l4 l5 l6 h; cases h
  | succ n ih => intro A0 f0 l2 l3 l4 l5 l6 h; exact ww_f8_goOn_b43 C0 hk7 ih A0 f0 l2 l3 l4 l5 l6 h
set_option maxRecDepth 100000 in
set_option maxHeartbeats 4000000 in
theorem ww_f8_goOn_b7  (C0 : Cx cX8_goOn 7 none RX8 p s m args meth c G DA) {h0 : Nat} {a0 : Nat → Nat} {h1 : Nat} {a1 : Nat → Nat} {f1 : Nat → Int32} {A1 : Nat → Nat → Int32}  {k7 : (Nat → Nat → Int32) → (Nat → Int32) → Int32 → Int32 → Option ((Nat → Nat → Int32) × (Nat → Int32))} {res : (Nat → Nat → Int32) × (Nat → Int32)}  (hk7 : ∀ (A0 : Nat → Nat → Int32) (f0 : Nat → Int32) (l2 : Int32) (l3 : Int32), k7 A0 f0 l2 l3 = some res → ∀ (H : Heap) (locs : List Loc) (ls : Array Slot), WD G DA (wX8 G h0 a0 f0 A0 ++ (wX1 G h1 a1 f1 A1)) H → va_S DA s.heap H locs → lv_has ls 7 [(0, .ref h0), (1, .ref h1), (2, .int l2), (3, .int l3)] → W p l e rmX8_goOn s m args below meth c H locs 0 0 (MQ below (QV G DA (wX8 G h0 a0 res.2 res.1 ++ (wX1 G h1 a1 f1 A1))) args s 0 0 DA) (F0 m 7 ls [])) : ∀ (A0 : Nat → Nat → Int32) (f0 : Nat → Int32) (l2 : Int32) (l3 : Int32), f8_goOn_b7 f1 A1  k7 A0 f0 l2 l3 = some res → ∀ (H : Heap) (locs : List Loc) (ls : Array Slot), WD G DA (wX8 G h0 a0 f0 A0 ++ (wX1 G h1 a1 f1 A1)) H → va_S DA s.heap H locs → lv_has ls 7 [(0, .ref h0), (1, .ref h1), (2, .int l2), (3, .int l3)] → W p l e rmX8_goOn s m args below meth c H locs 0 0 (MQ below (QV G DA (wX8 G h0 a0 res.2 res.1 ++ (wX1 G h1 a1 f1 A1))) args s 0 0 DA) (F0 m 7 ls []) := by
  obtain ⟨hx, hb, hml, hown, hts⟩ := C0.1
  have hK := C0.2.2.2.1
  intro A0 f0 l2 l3 h _ _ _ hPD hS hl
  unfold f8_goOn_b7 at h
  refine lv_iload_n hx hb dX8_goOn_7 rfl (lv_at hl 3 rfl) ?_
  refine lv_iload_n hx hb dX8_goOn_8 rfl (lv_at hl 2 rfl) ?_
  refine lv_icmp_ge (tgt := 87) hx hb dX8_goOn_9 (by decide) (fun cc1 => ?_) (fun cc1 => ?_)
  · have h := (if_pos cc1).symm.trans h
    obtain rfl := Option.some.inj h
    exact eV C0 hPD.1 hPD.2 hS dX8_goOn_87
  · have h := (if_neg cc1).symm.trans h
    refine lv_aload_n hx hb dX8_goOn_12 rfl (lv_at hl 0 rfl) ?_
    refine va_get (D := G.1) (ci := 8) (v := .ref (a0 1)) (C := RX8) (T := TX8) (N := 3) hx hb hts inlX8 hown hK hPD.1 0 rfl rfl 1 (by decide) (hts _ gw_336) (fun _ h9 => h9) rfl dX8_goOn_13 ?_
    refine lv_iload_n hx hb dX8_goOn_16 rfl (lv_at hl 3 rfl) ?_
    refine kNI (As := [.ref (a0 1), .int l3]) (rest := []) C0 (kt_X9_at l G (a0 1) 16384 (A0 1) l3 (by decide)) gi_U_X9_at (host := "IdleCrimes") (index := 34) (List.mem_of_getElem? (i := 35) rfl) gw_6 gw_7 (n := 2) rfl (by decide +kernel) ⟨rfl, rfl, Nat.le_of_ble_eq_true rfl, Nat.le_of_ble_eq_true rfl⟩ hPD hS [2] [0, 1, 3, 4, 5, 6] [0, 1, 6, 2, 3, 4, 5] (wN := (wX8 G h0 a0 f0 A0 ++ (wX1 G h1 a1 f1 A1))) rfl rfl rfl rfl rfl hl.1 (Nat.le_of_ble_eq_true rfl) dX8_goOn_17 (fun H locs hPD hS => ?_)
    refine lv_istore (lv' := [(4, .int (f9_at 16384 (A0 1) l3)), (0, .ref h0), (1, .ref h1), (2, .int l2), (3, .int l3)]) hx hb dX8_goOn_20 hl (by decide) rfl (fun ls hl => ?_)
    refine lv_aload_n hx hb dX8_goOn_22 rfl (lv_at hl 2 rfl) ?_
    refine lv_aload_n hx hb dX8_goOn_23 rfl (lv_at hl 1 rfl) ?_
    refine va_get (D := G.1) (ci := 8) (v := .ref (a0 0)) (C := RX8) (T := TX8) (N := 3) hx hb hts inlX8 hown hK hPD.1 0 rfl rfl 0 (by decide) (hts _ gw_335) (fun _ h9 => h9) rfl dX8_goOn_24 ?_
    refine lv_iload hx hb dX8_goOn_27 (lv_at hl 0 rfl) ?_
    refine kNI (As := [.ref (a0 0), .int (f9_at 16384 (A0 1) l3)]) (rest := [.ref h1]) C0 (kt_X9_at l G (a0 0) 65536 (A0 0) (f9_at 16384 (A0 1) l3) (by decide)) gi_U_X9_at (host := "IdleCrimes") (index := 34) (List.mem_of_getElem? (i := 35) rfl) gw_6 gw_7 (n := 2) rfl (by decide +kernel) ⟨rfl, rfl, Nat.le_of_ble_eq_true rfl, Nat.le_of_ble_eq_true rfl⟩ hPD hS [1] [0, 2, 3, 4, 5, 6] [0, 6, 1, 2, 3, 4, 5] (wN := (wX8 G h0 a0 f0 A0 ++ (wX1 G h1 a1 f1 A1))) rfl rfl rfl rfl rfl hl.1 (Nat.le_of_ble_eq_true rfl) dX8_goOn_29 (fun H locs hPD hS => ?_)
    refine lv_ldc (v := 65535) hx hb hown (hts _ gw_338) dX8_goOn_32 ?_
    refine lv_iand hx hb dX8_goOn_34 ?_
    obtain ⟨q_1, hq_1, h⟩ := ob2 h
    refine kVI (As := [.int ((f9_at 65536 (A0 0) (f9_at 16384 (A0 1) l3)) &&& 65535)]) (rest := []) C0 (kt_X1_aroundAny l G h1 a1 f1 A1 ((f9_at 65536 (A0 0) (f9_at 16384 (A0 1) l3)) &&& 65535) hq_1) gi_V_X8_52_X1_aroundAny (n := 1) rfl (by decide +kernel) rfl ⟨rfl, rfl, Nat.le_of_ble_eq_true rfl, Nat.le_of_ble_eq_true rfl⟩ hPD hS 3 1 rfl rfl rfl [3, 4, 5, 6] [0, 1, 2] [0, 1, 2, 3, 4, 5, 6] (wN := (wX8 G h0 a0 f0 A0 ++ (wX1 G h1 a1 f1 A1))) rfl rfl rfl rfl rfl hl.1 (Nat.le_of_ble_eq_true rfl) dX8_goOn_35 (fun H locs hPD hS => ?_)
    refine lv_istore (lv' := [(5, .int q_1), (4, .int (f9_at 16384 (A0 1) l3)), (0, .ref h0), (1, .ref h1), (2, .int l2), (3, .int l3)]) hx hb dX8_goOn_38 hl (by decide) rfl (fun ls hl => ?_)
    refine lv_iconst (v := 0) hx hb dX8_goOn_40 (by decide) ?_
    refine lv_istore (lv' := [(6, .int 0), (5, .int q_1), (4, .int (f9_at 16384 (A0 1) l3)), (0, .ref h0), (1, .ref h1), (2, .int l2), (3, .int l3)]) hx hb dX8_goOn_41 hl (by decide) rfl (fun ls hl => ?_)
    exact ww_f8_goOn_l43 C0 hk7 NF A0 f0 l2 l3 (f9_at 16384 (A0 1) l3) q_1 0 h _ _ _ hPD hS (lv_sub hl [3, 4, 5, 6, 2, 1, 0] rfl)
set_option maxRecDepth 100000 in
set_option maxHeartbeats 4000000 in
theorem ww_f8_goOn_l7  (C0 : Cx cX8_goOn 7 none RX8 p s m args meth c G DA) {h0 : Nat} {a0 : Nat → Nat} {h1 : Nat} {a1 : Nat → Nat} {f1 : Nat → Int32} {A1 : Nat → Nat → Int32}   {res : (Nat → Nat → Int32) × (Nat → Int32)}  : ∀ (n : Nat) (A0 : Nat → Nat → Int32) (f0 : Nat → Int32) (l2 : Int32) (l3 : Int32), f8_goOn_l7 f1 A1  n A0 f0 l2 l3 = some res → ∀ (H : Heap) (locs : List Loc) (ls : Array Slot), WD G DA (wX8 G h0 a0 f0 A0 ++ (wX1 G h1 a1 f1 A1)) H → va_S DA s.heap H locs → lv_has ls 7 [(0, .ref h0), (1, .ref h1), (2, .int l2), (3, .int l3)] → W p l e rmX8_goOn s m args below meth c H locs 0 0 (MQ below (QV G DA (wX8 G h0 a0 res.2 res.1 ++ (wX1 G h1 a1 f1 A1))) args s 0 0 DA) (F0 m 7 ls []) := by
  intro n
  induction n with
  | zero => intro A0 f0 l2 l3 h; cases h
  | succ n ih => intro A0 f0 l2 l3 h; exact ww_f8_goOn_b7 C0  ih A0 f0 l2 l3 h
set_option maxRecDepth 100000 in
set_option maxHeartbeats 4000000 in
theorem kt_X8_goOn (l : Launch) (G : Gp) (h0 : Nat) (a0 : Nat → Nat) (h1 : Nat) (a1 : Nat → Nat) (f0 : Nat → Int32) (A0 : Nat → Nat → Int32) (f1 : Nat → Int32) (A1 : Nat → Nat → Int32) : ∀ {r : (Nat → Nat → Int32) × (Nat → Int32)}, f8_goOn f0 A0 f1 A1 = some r → CtrV l yX8_goOn cX8_goOn 7 none rmX8_goOn G [.ref h0, .ref h1] (wX8 G h0 a0 f0 A0 ++ (wX1 G h1 a1 f1 A1)) (wX8 G h0 a0 r.2 r.1 ++ (wX1 G h1 a1 f1 A1)) := by
  intro res h
  refine ctrV_of (cc := cX8_goOn) (maxL := 7) (ret := none) (by decide +kernel) rfl (Nat.le_of_ble_eq_true rfl) (fun p e s m below meth c DA C0 hP hD ls hl => ?_)
  have hPD : WD G DA (wX8 G h0 a0 f0 A0 ++ (wX1 G h1 a1 f1 A1)) s.heap := ⟨hP, hD⟩
  have hS : va_S DA s.heap s.heap [] := va_S.rf
  have hl : lv_has ls 7 [(0, .ref h0), (1, .ref h1)] := hl
  obtain ⟨hx, hb, hml, hown, hts⟩ := C0.1
  have hK := C0.2.2.2.1
  unfold f8_goOn at h
  refine lv_aload_n hx hb dX8_goOn_0 rfl (lv_at hl 0 rfl) ?_
  refine va_get (D := G.1) (ci := 8) (v := .int (f0 2)) (C := RX8) (T := TX8) (N := 3) hx hb hts inlX8 hown hK hPD.1 0 rfl rfl 2 (by decide) (hts _ gw_337) (fun _ h9 => h9) rfl dX8_goOn_1 ?_
  refine lv_istore_n (lv' := [(2, .int (f0 2)), (0, .ref h0), (1, .ref h1)]) hx hb dX8_goOn_4 rfl hl (by decide) rfl (fun ls hl => ?_)
  refine lv_iconst (v := 0) hx hb dX8_goOn_5 (by decide) ?_
  refine lv_istore_n (lv' := [(3, .int 0), (2, .int (f0 2)), (0, .ref h0), (1, .ref h1)]) hx hb dX8_goOn_6 rfl hl (by decide) rfl (fun ls hl => ?_)
  exact ww_f8_goOn_l7 C0 NF A0 f0 (f0 2) 0 h _ _ _ hPD hS (lv_sub hl [2, 3, 1, 0] rfl)
abbrev rmX8_best : Room := { frames := 4, cells := 0, slots := 0, locals := 92 }
set_option maxRecDepth 100000 in
set_option maxHeartbeats 4000000 in
theorem ww_f8_best_b157  (C0 : Cx cX8_best 11 (some .int) RX8 p s m args meth c G DA) {h0 : Nat} {a0 : Nat → Nat} {q1 : Nat} {h2 : Nat} {a2 : Nat → Nat} {n1 : Nat} {xs1 : Nat → Int32} {f2 : Nat → Int32} {A2 : Nat → Nat → Int32} {p1 : Int32} {p2 : Int32} (hn1 : n1 < 2147483648) {k60 : (Nat → Nat → Int32) → (Nat → Int32) → Int32 → Int32 → Int32 → Option (Int32 × (Nat → Nat → Int32) × (Nat → Int32))} {res : Int32 × (Nat → Nat → Int32) × (Nat → Int32)} (hk60 : ∀ (A0 : Nat → Nat → Int32) (f0 : Nat → Int32) (l5 : Int32) (l6 : Int32) (l7 : Int32), k60 A0 f0 l5 l6 l7 = some res → ∀ (H : Heap) (locs : List Loc) (ls : Array Slot), WD G DA (wX8 G h0 a0 f0 A0 ++ (wI G q1 n1 xs1 ++ (wX1 G h2 a2 f2 A2))) H → va_S DA s.heap H locs → lv_has ls 11 [(0, .ref h0), (1, .int p1), (2, .int p2), (3, .ref q1), (4, .ref h2), (5, .int l5), (6, .int l6), (7, .int l7)] → W p l e rmX8_best s m args below meth c H locs 0 0 (MQ below (QI G DA res.1 (wX8 G h0 a0 res.2.2 res.2.1 ++ (wI G q1 n1 xs1 ++ (wX1 G h2 a2 f2 A2)))) args s 0 0 DA) (F0 m 60 ls [])) : ∀ (A0 : Nat → Nat → Int32) (f0 : Nat → Int32) (l5 : Int32) (l6 : Int32) (l7 : Int32) (l8 : Int32), f8_best_b157 n1 xs1 f2 A2 p1 p2 k60 A0 f0 l5 l6 l7 l8 = some res → ∀ (H : Heap) (locs : List Loc) (ls : Array Slot), WD G DA (wX8 G h0 a0 f0 A0 ++ (wI G q1 n1 xs1 ++ (wX1 G h2 a2 f2 A2))) H → va_S DA s.heap H locs → lv_has ls 11 [(0, .ref h0), (1, .int p1), (2, .int p2), (3, .ref q1), (4, .ref h2), (5, .int l5), (6, .int l6), (7, .int l7), (8, .int l8)] → W p l e rmX8_best s m args below meth c H locs 0 0 (MQ below (QI G DA res.1 (wX8 G h0 a0 res.2.2 res.2.1 ++ (wI G q1 n1 xs1 ++ (wX1 G h2 a2 f2 A2)))) args s 0 0 DA) (F0 m 157 ls []) := by
  obtain ⟨hx, hb, hml, hown, hts⟩ := C0.1
  have hK := C0.2.2.2.1
  intro A0 f0 l5 l6 l7 l8 h _ _ _ hPD hS hl
  unfold f8_best_b157 at h
  refine lv_aload_n hx hb dX8_best_157 rfl (lv_at hl 0 rfl) ?_
  refine va_get (D := G.1) (ci := 8) (v := .ref (a0 0)) (C := RX8) (T := TX8) (N := 3) hx hb hts inlX8 hown hK hPD.1 0 rfl rfl 0 (by decide) (hts _ gw_335) (fun _ h9 => h9) rfl dX8_best_158 ?_
  refine lv_iload hx hb dX8_best_161 (lv_at hl 8 rfl) ?_
  refine lv_iconst (v := 0) hx hb dX8_best_163 (by decide) ?_
  refine kNV (As := [.ref (a0 0), .int l8, .int 0]) (rest := []) C0 (kt_X9_put l G (a0 0) 65536 (A0 0) l8 0 (by decide)) gi_U_X9_put (host := "IdleCrimes") (index := 47) (List.mem_of_getElem? (i := 36) rfl) gw_6 gw_19 (n := 3) rfl (by decide +kernel) ⟨rfl, rfl, Nat.le_of_ble_eq_true rfl, Nat.le_of_ble_eq_true rfl⟩ hPD hS [1] [0, 2, 3, 4, 5, 6, 7] [0, 7, 1, 2, 3, 4, 5, 6] (wN := (wX8 G h0 a0 f0 (updA A0 0 (f9_put 65536 (A0 0) l8 0)) ++ (wI G q1 n1 xs1 ++ (wX1 G h2 a2 f2 A2)))) rfl rfl rfl rfl rfl hl.1 (Nat.le_of_ble_eq_true rfl) dX8_best_164 (fun H locs hPD hS => ?_)
  obtain ⟨A0_4, eA0_4, h⟩ := lvl h
  have hPD : WD G DA (wX8 G h0 a0 f0 A0_4 ++ (wI G q1 n1 xs1 ++ (wX1 G h2 a2 f2 A2))) H := by rw [eA0_4]; exact hPD
  clear eA0_4
  refine lv_iinc (v := l7 + 1) (lv' := [(7, .int (l7 + 1)), (0, .ref h0), (1, .int p1), (2, .int p2), (3, .ref q1), (4, .ref h2), (5, .int l5), (6, .int l6), (8, .int l8)]) hx hb dX8_best_167 hl (k := 7) rfl rfl (by decide) rfl (fun ls hl => ?_)
  refine lv_goto (tgt := 60) hx hb dX8_best_170 (by decide) ?_
  exact hk60 A0_4 f0 l5 l6 (l7 + 1) h _ _ _ hPD hS (lv_sub hl [1, 2, 3, 4, 5, 6, 7, 0] rfl)
set_option maxRecDepth 100000 in
set_option maxHeartbeats 4000000 in
theorem ww_f8_best_b121  (C0 : Cx cX8_best 11 (some .int) RX8 p s m args meth c G DA) {h0 : Nat} {a0 : Nat → Nat} {q1 : Nat} {h2 : Nat} {a2 : Nat → Nat} {n1 : Nat} {xs1 : Nat → Int32} {f2 : Nat → Int32} {A2 : Nat → Nat → Int32} {p1 : Int32} {p2 : Int32} (hn1 : n1 < 2147483648) {k60 : (Nat → Nat → Int32) → (Nat → Int32) → Int32 → Int32 → Int32 → Option (Int32 × (Nat → Nat → Int32) × (Nat → Int32))} {res : Int32 × (Nat → Nat → Int32) × (Nat → Int32)} (hk60 : ∀ (A0 : Nat → Nat → Int32) (f0 : Nat → Int32) (l5 : Int32) (l6 : Int32) (l7 : Int32), k60 A0 f0 l5 l6 l7 = some res → ∀ (H : Heap) (locs : List Loc) (ls : Array Slot), WD G DA (wX8 G h0 a0 f0 A0 ++ (wI G q1 n1 xs1 ++ (wX1 G h2 a2 f2 A2))) H → va_S DA s.heap H locs → lv_has ls 11 [(0, .ref h0), (1, .int p1), (2, .int p2), (3, .ref q1), (4, .ref h2), (5, .int l5), (6, .int l6), (7, .int l7)] → W p l e rmX8_best s m args below meth c H locs 0 0 (MQ below (QI G DA res.1 (wX8 G h0 a0 res.2.2 res.2.1 ++ (wI G q1 n1 xs1 ++ (wX1 G h2 a2 f2 A2)))) args s 0 0 DA) (F0 m 60 ls [])) : ∀ (A0 : Nat → Nat → Int32) (f0 : Nat → Int32) (l5 : Int32) (l6 : Int32) (l7 : Int32) (l8 : Int32) (l9 : Int32) (s0 : Int32), f8_best_b121 n1 xs1 f2 A2 p1 p2 k60 A0 f0 l5 l6 l7 l8 l9 s0 = some res → ∀ (H : Heap) (locs : List Loc) (ls : Array Slot), WD G DA (wX8 G h0 a0 f0 A0 ++ (wI G q1 n1 xs1 ++ (wX1 G h2 a2 f2 A2))) H → va_S DA s.heap H locs → lv_has ls 11 [(0, .ref h0), (1, .int p1), (2, .int p2), (3, .ref q1), (4, .ref h2), (5, .int l5), (6, .int l6), (7, .int l7), (8, .int l8), (9, .int l9)] → W p l e rmX8_best s m args below meth c H locs 0 0 (MQ below (QI G DA res.1 (wX8 G h0 a0 res.2.2 res.2.1 ++ (wI G q1 n1 xs1 ++ (wX1 G h2 a2 f2 A2)))) args s 0 0 DA) (F0 m 121 ls [.int s0]) := by
  obtain ⟨hx, hb, hml, hown, hts⟩ := C0.1
  have hK := C0.2.2.2.1
  intro A0 f0 l5 l6 l7 l8 l9 s0 h _ _ _ hPD hS hl
  unfold f8_best_b121 at h
  refine lv_istore (lv' := [(10, .int s0), (0, .ref h0), (1, .int p1), (2, .int p2), (3, .ref q1), (4, .ref h2), (5, .int l5), (6, .int l6), (7, .int l7), (8, .int l8), (9, .int l9)]) hx hb dX8_best_121 hl (by decide) rfl (fun ls hl => ?_)
  refine lv_iload hx hb dX8_best_123 (lv_at hl 10 rfl) ?_
  refine lv_if_eq (tgt := 157) hx hb dX8_best_125 (by decide) (fun cc1 => ?_) (fun cc1 => ?_)
  · have h := (if_pos cc1).symm.trans h
    exact ww_f8_best_b157 C0 hn1 hk60 A0 f0 l5 l6 l7 l8 h _ _ _ hPD hS (lv_sub hl [1, 2, 3, 4, 5, 6, 7, 8, 9] rfl)
  · have h := (if_neg cc1).symm.trans h
    refine lv_iload hx hb dX8_best_128 (lv_at hl 0 rfl) ?_
    refine lv_iload hx hb dX8_best_130 (lv_at hl 7 rfl) ?_
    refine lv_icmp_gt (tgt := 149) hx hb dX8_best_132 (by decide) (fun cc1 => ?_) (fun cc1 => ?_)
    · have h := (if_pos cc1).symm.trans h
      refine lv_iload hx hb dX8_best_149 (lv_at hl 9 rfl) ?_
      refine lv_istore (lv' := [(5, .int l8), (10, .int s0), (0, .ref h0), (1, .int p1), (2, .int p2), (3, .ref q1), (4, .ref h2), (6, .int l6), (7, .int l7), (8, .int l8), (9, .int l9)]) hx hb dX8_best_151 hl (by decide) rfl (fun ls hl => ?_)
      refine lv_iload hx hb dX8_best_153 (lv_at hl 1 rfl) ?_
      refine lv_istore (lv' := [(6, .int s0), (5, .int l8), (10, .int s0), (0, .ref h0), (1, .int p1), (2, .int p2), (3, .ref q1), (4, .ref h2), (7, .int l7), (8, .int l8), (9, .int l9)]) hx hb dX8_best_155 hl (by decide) rfl (fun ls hl => ?_)
      exact ww_f8_best_b157 C0 hn1 hk60 A0 f0 l8 s0 l7 l8 h _ _ _ hPD hS (lv_sub hl [3, 4, 5, 6, 7, 1, 0, 8, 9] rfl)
    · have h := (if_neg cc1).symm.trans h
      refine lv_iload hx hb dX8_best_135 (lv_at hl 0 rfl) ?_
      refine lv_iload hx hb dX8_best_137 (lv_at hl 7 rfl) ?_
      refine lv_icmp_ne (tgt := 157) hx hb dX8_best_139 (by decide) (fun cc1 => ?_) (fun cc1 => ?_)
      · have h := (if_neg cc1).symm.trans h
        exact ww_f8_best_b157 C0 hn1 hk60 A0 f0 l5 l6 l7 l8 h _ _ _ hPD hS (lv_sub hl [1, 2, 3, 4, 5, 6, 7, 8, 9] rfl)
      · have h := (if_pos cc1).symm.trans h
        refine lv_iload hx hb dX8_best_142 (lv_at hl 9 rfl) ?_
        refine lv_iload hx hb dX8_best_144 (lv_at hl 6 rfl) ?_
        refine lv_icmp_ge (tgt := 157) hx hb dX8_best_146 (by decide) (fun cc1 => ?_) (fun cc1 => ?_)
        · have h := (if_pos cc1).symm.trans h
          exact ww_f8_best_b157 C0 hn1 hk60 A0 f0 l5 l6 l7 l8 h _ _ _ hPD hS (lv_sub hl [1, 2, 3, 4, 5, 6, 7, 8, 9] rfl)
        · have h := (if_neg cc1).symm.trans h
          refine lv_iload hx hb dX8_best_149 (lv_at hl 9 rfl) ?_
          refine lv_istore (lv' := [(5, .int l8), (10, .int s0), (0, .ref h0), (1, .int p1), (2, .int p2), (3, .ref q1), (4, .ref h2), (6, .int l6), (7, .int l7), (8, .int l8), (9, .int l9)]) hx hb dX8_best_151 hl (by decide) rfl (fun ls hl => ?_)
          refine lv_iload hx hb dX8_best_153 (lv_at hl 1 rfl) ?_
          refine lv_istore (lv' := [(6, .int s0), (5, .int l8), (10, .int s0), (0, .ref h0), (1, .int p1), (2, .int p2), (3, .ref q1), (4, .ref h2), (7, .int l7), (8, .int l8), (9, .int l9)]) hx hb dX8_best_155 hl (by decide) rfl (fun ls hl => ?_)
          exact ww_f8_best_b157 C0 hn1 hk60 A0 f0 l8 s0 l7 l8 h _ _ _ hPD hS (lv_sub hl [3, 4, 5, 6, 7, 1, 0, 8, 9] rfl)
set_option maxRecDepth 100000 in
set_option maxHeartbeats 4000000 in
theorem ww_f8_best_b104  (C0 : Cx cX8_best 11 (some .int) RX8 p s m args meth c G DA) {h0 : Nat} {a0 : Nat → Nat} {q1 : Nat} {h2 : Nat} {a2 : Nat → Nat} {n1 : Nat} {xs1 : Nat → Int32} {f2 : Nat → Int32} {A2 : Nat → Nat → Int32} {p1 : Int32} {p2 : Int32} (hn1 : n1 < 2147483648) {k60 : (Nat → Nat → Int32) → (Nat → Int32) → Int32 → Int32 → Int32 → Option (Int32 × (Nat → Nat → Int32) × (Nat → Int32))} {res : Int32 × (Nat → Nat → Int32) × (Nat → Int32)} (hk60 : ∀ (A0 : Nat → Nat → Int32) (f0 : Nat → Int32) (l5 : Int32) (l6 : Int32) (l7 : Int32), k60 A0 f0 l5 l6 l7 = some res → ∀ (H : Heap) (locs : List Loc) (ls : Array Slot), WD G DA (wX8 G h0 a0 f0 A0 ++ (wI G q1 n1 xs1 ++ (wX1 G h2 a2 f2 A2))) H → va_S DA s.heap H locs → lv_has ls 11 [(0, .ref h0), (1, .int p1), (2, .int p2), (3, .ref q1), (4, .ref h2), (5, .int l5), (6, .int l6), (7, .int l7)] → W p l e rmX8_best s m args below meth c H locs 0 0 (MQ below (QI G DA res.1 (wX8 G h0 a0 res.2.2 res.2.1 ++ (wI G q1 n1 xs1 ++ (wX1 G h2 a2 f2 A2)))) args s 0 0 DA) (F0 m 60 ls [])) : ∀ (A0 : Nat → Nat → Int32) (f0 : Nat → Int32) (l5 : Int32) (l6 : Int32) (l7 : Int32) (l8 : Int32) (s0 : Int32), f8_best_b104 n1 xs1 f2 A2 p1 p2 k60 A0 f0 l5 l6 l7 l8 s0 = some res → ∀ (H : Heap) (locs : List Loc) (ls : Array Slot), WD G DA (wX8 G h0 a0 f0 A0 ++ (wI G q1 n1 xs1 ++ (wX1 G h2 a2 f2 A2))) H → va_S DA s.heap H locs → lv_has ls 11 [(0, .ref h0), (1, .int p1), (2, .int p2), (3, .ref q1), (4, .ref h2), (5, .int l5), (6, .int l6), (7, .int l7), (8, .int l8)] → W p l e rmX8_best s m args below meth c H locs 0 0 (MQ below (QI G DA res.1 (wX8 G h0 a0 res.2.2 res.2.1 ++ (wI G q1 n1 xs1 ++ (wX1 G h2 a2 f2 A2)))) args s 0 0 DA) (F0 m 104 ls [.int s0]) := by
  obtain ⟨hx, hb, hml, hown, hts⟩ := C0.1
  have hK := C0.2.2.2.1
  intro A0 f0 l5 l6 l7 l8 s0 h _ _ _ hPD hS hl
  unfold f8_best_b104 at h
  refine lv_istore (lv' := [(9, .int s0), (0, .ref h0), (1, .int p1), (2, .int p2), (3, .ref q1), (4, .ref h2), (5, .int l5), (6, .int l6), (7, .int l7), (8, .int l8)]) hx hb dX8_best_104 hl (by decide) rfl (fun ls hl => ?_)
  refine lv_iload hx hb dX8_best_106 (lv_at hl 0 rfl) ?_
  refine lv_if_eq (tgt := 120) hx hb dX8_best_108 (by decide) (fun cc1 => ?_) (fun cc1 => ?_)
  · have h := (if_pos cc1).symm.trans h
    refine lv_iconst (v := (-1)) hx hb dX8_best_120 (by decide) ?_
    exact ww_f8_best_b121 C0 hn1 hk60 A0 f0 l5 l6 l7 l8 s0 (-1) h _ _ _ hPD hS (lv_sub hl [1, 2, 3, 4, 5, 6, 7, 8, 9, 0] rfl)
  · have h := (if_neg cc1).symm.trans h
    refine lv_aload_n hx hb dX8_best_111 rfl (lv_at hl 4 rfl) ?_
    refine lv_iload hx hb dX8_best_112 (lv_at hl 9 rfl) ?_
    obtain ⟨q_5, hq_5, h⟩ := ob2 h
    refine kNI (As := [.ref q1, .int l8]) (rest := []) C0 (kt_X9_sumOf l G q1 n1 xs1 l8 hn1 hq_5) gi_U_X9_sumOf (host := "IdleCrimes") (index := 44) (List.mem_of_getElem? (i := 38) rfl) gw_6 gw_283 (n := 2) rfl (by decide +kernel) ⟨rfl, rfl, Nat.le_of_ble_eq_true rfl, Nat.le_of_ble_eq_true rfl⟩ hPD hS [3] [0, 1, 2, 4, 5, 6, 7] [0, 1, 2, 7, 3, 4, 5, 6] (wN := (wX8 G h0 a0 f0 A0 ++ (wI G q1 n1 xs1 ++ (wX1 G h2 a2 f2 A2)))) rfl rfl rfl rfl rfl hl.1 (Nat.le_of_ble_eq_true rfl) dX8_best_114 (fun H locs hPD hS => ?_)
    refine lv_goto (tgt := 121) hx hb dX8_best_117 (by decide) ?_
    exact ww_f8_best_b121 C0 hn1 hk60 A0 f0 l5 l6 l7 l8 s0 q_5 h _ _ _ hPD hS (lv_sub hl [1, 2, 3, 4, 5, 6, 7, 8, 9, 0] rfl)
set_option maxRecDepth 100000 in
set_option maxHeartbeats 4000000 in
theorem ww_f8_best_b60  (C0 : Cx cX8_best 11 (some .int) RX8 p s m args meth c G DA) {h0 : Nat} {a0 : Nat → Nat} {q1 : Nat} {h2 : Nat} {a2 : Nat → Nat} {n1 : Nat} {xs1 : Nat → Int32} {f2 : Nat → Int32} {A2 : Nat → Nat → Int32} {p1 : Int32} {p2 : Int32} (hn1 : n1 < 2147483648) {k60 : (Nat → Nat → Int32) → (Nat → Int32) → Int32 → Int32 → Int32 → Option (Int32 × (Nat → Nat → Int32) × (Nat → Int32))} {res : Int32 × (Nat → Nat → Int32) × (Nat → Int32)}  (hk60 : ∀ (A0 : Nat → Nat → Int32) (f0 : Nat → Int32) (l5 : Int32) (l6 : Int32) (l7 : Int32), k60 A0 f0 l5 l6 l7 = some res → ∀ (H : Heap) (locs : List Loc) (ls : Array Slot), WD G DA (wX8 G h0 a0 f0 A0 ++ (wI G q1 n1 xs1 ++ (wX1 G h2 a2 f2 A2))) H → va_S DA s.heap H locs → lv_has ls 11 [(0, .ref h0), (1, .int p1), (2, .int p2), (3, .ref q1), (4, .ref h2), (5, .int l5), (6, .int l6), (7, .int l7)] → W p l e rmX8_best s m args below meth c H locs 0 0 (MQ below (QI G DA res.1 (wX8 G h0 a0 res.2.2 res.2.1 ++ (wI G q1 n1 xs1 ++ (wX1 G h2 a2 f2 A2)))) args s 0 0 DA) (F0 m 60 ls [])) : ∀ (A0 : Nat → Nat → Int32) (f0 : Nat → Int32) (l5 : Int32) (l6 : Int32) (l7 : Int32), f8_best_b60 n1 xs1 f2 A2 p1 p2  k60 A0 f0 l5 l6 l7 = some res → ∀ (H : Heap) (locs : List Loc) (ls : Array Slot), WD G DA (wX8 G h0 a0 f0 A0 ++ (wI G q1 n1 xs1 ++ (wX1 G h2 a2 f2 A2))) H → va_S DA s.heap H locs → lv_has ls 11 [(0, .ref h0), (1, .int p1), (2, .int p2), (3, .ref q1), (4, .ref h2), (5, .int l5), (6, .int l6), (7, .int l7)] → W p l e rmX8_best s m args below meth c H locs 0 0 (MQ below (QI G DA res.1 (wX8 G h0 a0 res.2.2 res.2.1 ++ (wI G q1 n1 xs1 ++ (wX1 G h2 a2 f2 A2)))) args s 0 0 DA) (F0 m 60 ls []) := by
  obtain ⟨hx, hb, hml, hown, hts⟩ := C0.1
  have hK := C0.2.2.2.1
  intro A0 f0 l5 l6 l7 h _ _ _ hPD hS hl
  unfold f8_best_b60 at h
  refine lv_iload hx hb dX8_best_60 (lv_at hl 7 rfl) ?_
  refine lv_aload_n hx hb dX8_best_62 rfl (lv_at hl 0 rfl) ?_
  refine va_get (D := G.1) (ci := 8) (v := .int (f0 2)) (C := RX8) (T := TX8) (N := 3) hx hb hts inlX8 hown hK hPD.1 0 rfl rfl 2 (by decide) (hts _ gw_337) (fun _ h9 => h9) rfl dX8_best_63 ?_
  refine lv_icmp_ge (tgt := 173) hx hb dX8_best_66 (by decide) (fun cc1 => ?_) (fun cc1 => ?_)
  · have h := (if_pos cc1).symm.trans h
    refine lv_iload hx hb dX8_best_173 (lv_at hl 5 rfl) ?_
    obtain rfl := Option.some.inj h
    exact eI C0 hPD.1 hPD.2 hS rfl dX8_best_175
  · have h := (if_neg cc1).symm.trans h
    refine lv_aload_n hx hb dX8_best_69 rfl (lv_at hl 0 rfl) ?_
    refine va_get (D := G.1) (ci := 8) (v := .ref (a0 1)) (C := RX8) (T := TX8) (N := 3) hx hb hts inlX8 hown hK hPD.1 0 rfl rfl 1 (by decide) (hts _ gw_336) (fun _ h9 => h9) rfl dX8_best_70 ?_
    refine lv_iload hx hb dX8_best_73 (lv_at hl 7 rfl) ?_
    refine kNI (As := [.ref (a0 1), .int l7]) (rest := []) C0 (kt_X9_at l G (a0 1) 16384 (A0 1) l7 (by decide)) gi_U_X9_at (host := "IdleCrimes") (index := 34) (List.mem_of_getElem? (i := 35) rfl) gw_6 gw_7 (n := 2) rfl (by decide +kernel) ⟨rfl, rfl, Nat.le_of_ble_eq_true rfl, Nat.le_of_ble_eq_true rfl⟩ hPD hS [2] [0, 1, 3, 4, 5, 6, 7] [0, 1, 7, 2, 3, 4, 5, 6] (wN := (wX8 G h0 a0 f0 A0 ++ (wI G q1 n1 xs1 ++ (wX1 G h2 a2 f2 A2)))) rfl rfl rfl rfl rfl hl.1 (Nat.le_of_ble_eq_true rfl) dX8_best_75 (fun H locs hPD hS => ?_)
    refine lv_istore (lv' := [(8, .int (f9_at 16384 (A0 1) l7)), (0, .ref h0), (1, .int p1), (2, .int p2), (3, .ref q1), (4, .ref h2), (5, .int l5), (6, .int l6), (7, .int l7)]) hx hb dX8_best_78 hl (by decide) rfl (fun ls hl => ?_)
    refine lv_aload_n hx hb dX8_best_80 rfl (lv_at hl 1 rfl) ?_
    refine va_get (D := G.1) (ci := 8) (v := .ref (a0 0)) (C := RX8) (T := TX8) (N := 3) hx hb hts inlX8 hown hK hPD.1 0 rfl rfl 0 (by decide) (hts _ gw_335) (fun _ h9 => h9) rfl dX8_best_81 ?_
    refine lv_iload hx hb dX8_best_84 (lv_at hl 0 rfl) ?_
    refine kNI (As := [.ref (a0 0), .int (f9_at 16384 (A0 1) l7)]) (rest := []) C0 (kt_X9_at l G (a0 0) 65536 (A0 0) (f9_at 16384 (A0 1) l7) (by decide)) gi_U_X9_at (host := "IdleCrimes") (index := 34) (List.mem_of_getElem? (i := 35) rfl) gw_6 gw_7 (n := 2) rfl (by decide +kernel) ⟨rfl, rfl, Nat.le_of_ble_eq_true rfl, Nat.le_of_ble_eq_true rfl⟩ hPD hS [1] [0, 2, 3, 4, 5, 6, 7] [0, 7, 1, 2, 3, 4, 5, 6] (wN := (wX8 G h0 a0 f0 A0 ++ (wI G q1 n1 xs1 ++ (wX1 G h2 a2 f2 A2)))) rfl rfl rfl rfl rfl hl.1 (Nat.le_of_ble_eq_true rfl) dX8_best_86 (fun H locs hPD hS => ?_)
    refine lv_aload hx hb dX8_best_89 (lv_at hl 5 rfl) ?_
    refine lv_iload_n hx hb dX8_best_91 rfl (lv_at hl 2 rfl) ?_
    refine kVI (As := [.int p1]) (rest := [.int (f9_at 65536 (A0 0) (f9_at 16384 (A0 1) l7))]) C0 (kt_X1_around l G h2 a2 f2 A2 p1) gi_V_X8_38_X1_around (n := 1) rfl (by decide +kernel) rfl ⟨rfl, rfl, Nat.le_of_ble_eq_true rfl, Nat.le_of_ble_eq_true rfl⟩ hPD hS 4 1 rfl rfl rfl [4, 5, 6, 7] [0, 1, 2, 3] [0, 1, 2, 3, 4, 5, 6, 7] (wN := (wX8 G h0 a0 f0 A0 ++ (wI G q1 n1 xs1 ++ (wX1 G h2 a2 f2 A2)))) rfl rfl rfl rfl rfl hl.1 (Nat.le_of_ble_eq_true rfl) dX8_best_92 (fun H locs hPD hS => ?_)
    refine lv_iand hx hb dX8_best_95 ?_
    refine lv_if_eq (tgt := 103) hx hb dX8_best_96 (by decide) (fun cc1 => ?_) (fun cc1 => ?_)
    · have h := (if_pos cc1).symm.trans h
      refine lv_iconst (v := 0) hx hb dX8_best_103 (by decide) ?_
      exact ww_f8_best_b104 C0 hn1 hk60 A0 f0 l5 l6 l7 (f9_at 16384 (A0 1) l7) 0 h _ _ _ hPD hS (lv_sub hl [1, 2, 3, 4, 5, 6, 7, 8, 0] rfl)
    · have h := (if_neg cc1).symm.trans h
      refine lv_iconst (v := 1) hx hb dX8_best_99 (by decide) ?_
      refine lv_goto (tgt := 104) hx hb dX8_best_100 (by decide) ?_
      exact ww_f8_best_b104 C0 hn1 hk60 A0 f0 l5 l6 l7 (f9_at 16384 (A0 1) l7) 1 h _ _ _ hPD hS (lv_sub hl [1, 2, 3, 4, 5, 6, 7, 8, 0] rfl)
set_option maxRecDepth 100000 in
set_option maxHeartbeats 4000000 in
theorem ww_f8_best_l60  (C0 : Cx cX8_best 11 (some .int) RX8 p s m args meth c G DA) {h0 : Nat} {a0 : Nat → Nat} {q1 : Nat} {h2 : Nat} {a2 : Nat → Nat} {n1 : Nat} {xs1 : Nat → Int32} {f2 : Nat → Int32} {A2 : Nat → Nat → Int32} {p1 : Int32} {p2 : Int32} (hn1 : n1 < 2147483648)  {res : Int32 × (Nat → Nat → Int32) × (Nat → Int32)}  : ∀ (n : Nat) (A0 : Nat → Nat → Int32) (f0 : Nat → Int32) (l5 : Int32) (l6 : Int32) (l7 : Int32), f8_best_l60 n1 xs1 f2 A2 p1 p2  n A0 f0 l5 l6 l7 = some res → ∀ (H : Heap) (locs : List Loc) (ls : Array Slot), WD G DA (wX8 G h0 a0 f0 A0 ++ (wI G q1 n1 xs1 ++ (wX1 G h2 a2 f2 A2))) H → va_S DA s.heap H locs → lv_has ls 11 [(0, .ref h0), (1, .int p1), (2, .int p2), (3, .ref q1), (4, .ref h2), (5, .int l5), (6, .int l6), (7, .int l7)] → W p l e rmX8_best s m args below meth c H locs 0 0 (MQ below (QI G DA res.1 (wX8 G h0 a0 res.2.2 res.2.1 ++ (wI G q1 n1 xs1 ++ (wX1 G h2 a2 f2 A2)))) args s 0 0 DA) (F0 m 60 ls []) := by
  intro n
  induction n with
  | zero => intro A0 f0 l5 l6 l7 h; cases h
  | succ n ih => intro A0 f0 l5 l6 l7 h; exact ww_f8_best_b60 C0 hn1  ih A0 f0 l5 l6 l7 h
set_option maxRecDepth 100000 in
set_option maxHeartbeats 4000000 in
theorem ww_f8_best_b22  (C0 : Cx cX8_best 11 (some .int) RX8 p s m args meth c G DA) {h0 : Nat} {a0 : Nat → Nat} {q1 : Nat} {h2 : Nat} {a2 : Nat → Nat} {n1 : Nat} {xs1 : Nat → Int32} {f2 : Nat → Int32} {A2 : Nat → Nat → Int32} {p1 : Int32} {p2 : Int32} (hn1 : n1 < 2147483648) {k22 : (Nat → Nat → Int32) → (Nat → Int32) → Int32 → Option (Int32 × (Nat → Nat → Int32) × (Nat → Int32))} {res : Int32 × (Nat → Nat → Int32) × (Nat → Int32)}  (hk22 : ∀ (A0 : Nat → Nat → Int32) (f0 : Nat → Int32) (l5 : Int32), k22 A0 f0 l5 = some res → ∀ (H : Heap) (locs : List Loc) (ls : Array Slot), WD G DA (wX8 G h0 a0 f0 A0 ++ (wI G q1 n1 xs1 ++ (wX1 G h2 a2 f2 A2))) H → va_S DA s.heap H locs → lv_has ls 11 [(0, .ref h0), (1, .int p1), (2, .int p2), (3, .ref q1), (4, .ref h2), (5, .int l5)] → W p l e rmX8_best s m args below meth c H locs 0 0 (MQ below (QI G DA res.1 (wX8 G h0 a0 res.2.2 res.2.1 ++ (wI G q1 n1 xs1 ++ (wX1 G h2 a2 f2 A2)))) args s 0 0 DA) (F0 m 22 ls [])) : ∀ (A0 : Nat → Nat → Int32) (f0 : Nat → Int32) (l5 : Int32), f8_best_b22 n1 xs1 f2 A2 p1 p2  k22 A0 f0 l5 = some res → ∀ (H : Heap) (locs : List Loc) (ls : Array Slot), WD G DA (wX8 G h0 a0 f0 A0 ++ (wI G q1 n1 xs1 ++ (wX1 G h2 a2 f2 A2))) H → va_S DA s.heap H locs → lv_has ls 11 [(0, .ref h0), (1, .int p1), (2, .int p2), (3, .ref q1), (4, .ref h2), (5, .int l5)] → W p l e rmX8_best s m args below meth c H locs 0 0 (MQ below (QI G DA res.1 (wX8 G h0 a0 res.2.2 res.2.1 ++ (wI G q1 n1 xs1 ++ (wX1 G h2 a2 f2 A2)))) args s 0 0 DA) (F0 m 22 ls []) := by
  obtain ⟨hx, hb, hml, hown, hts⟩ := C0.1
  have hK := C0.2.2.2.1
  intro A0 f0 l5 h _ _ _ hPD hS hl
  unfold f8_best_b22 at h
  refine lv_iload hx hb dX8_best_22 (lv_at hl 5 rfl) ?_
  refine lv_iload_n hx hb dX8_best_24 rfl (lv_at hl 2 rfl) ?_
  refine lv_icmp_ge (tgt := 51) hx hb dX8_best_25 (by decide) (fun cc1 => ?_) (fun cc1 => ?_)
  · have h := (if_pos cc1).symm.trans h
    refine lv_iconst (v := (-1)) hx hb dX8_best_51 (by decide) ?_
    refine lv_istore (lv' := [(5, .int (-1)), (0, .ref h0), (1, .int p1), (2, .int p2), (3, .ref q1), (4, .ref h2)]) hx hb dX8_best_52 hl (by decide) rfl (fun ls hl => ?_)
    refine lv_iconst (v := (-1)) hx hb dX8_best_54 (by decide) ?_
    refine lv_istore (lv' := [(6, .int (-1)), (5, .int (-1)), (0, .ref h0), (1, .int p1), (2, .int p2), (3, .ref q1), (4, .ref h2)]) hx hb dX8_best_55 hl (by decide) rfl (fun ls hl => ?_)
    refine lv_iconst (v := 0) hx hb dX8_best_57 (by decide) ?_
    refine lv_istore (lv' := [(7, .int 0), (6, .int (-1)), (5, .int (-1)), (0, .ref h0), (1, .int p1), (2, .int p2), (3, .ref q1), (4, .ref h2)]) hx hb dX8_best_58 hl (by decide) rfl (fun ls hl => ?_)
    exact ww_f8_best_l60 C0 hn1 NF A0 f0 (-1) (-1) 0 h _ _ _ hPD hS (lv_sub hl [3, 4, 5, 6, 7, 2, 1, 0] rfl)
  · have h := (if_neg cc1).symm.trans h
    refine lv_iload hx hb dX8_best_28 (lv_at hl 5 rfl) ?_
    refine lv_bipush (v := 8) hx hb dX8_best_30 (by decide) ?_
    refine lv_icmp_ge (tgt := 51) hx hb dX8_best_32 (by decide) (fun cc1 => ?_) (fun cc1 => ?_)
    · have h := (if_pos cc1).symm.trans h
      refine lv_iconst (v := (-1)) hx hb dX8_best_51 (by decide) ?_
      refine lv_istore (lv' := [(5, .int (-1)), (0, .ref h0), (1, .int p1), (2, .int p2), (3, .ref q1), (4, .ref h2)]) hx hb dX8_best_52 hl (by decide) rfl (fun ls hl => ?_)
      refine lv_iconst (v := (-1)) hx hb dX8_best_54 (by decide) ?_
      refine lv_istore (lv' := [(6, .int (-1)), (5, .int (-1)), (0, .ref h0), (1, .int p1), (2, .int p2), (3, .ref q1), (4, .ref h2)]) hx hb dX8_best_55 hl (by decide) rfl (fun ls hl => ?_)
      refine lv_iconst (v := 0) hx hb dX8_best_57 (by decide) ?_
      refine lv_istore (lv' := [(7, .int 0), (6, .int (-1)), (5, .int (-1)), (0, .ref h0), (1, .int p1), (2, .int p2), (3, .ref q1), (4, .ref h2)]) hx hb dX8_best_58 hl (by decide) rfl (fun ls hl => ?_)
      exact ww_f8_best_l60 C0 hn1 NF A0 f0 (-1) (-1) 0 h _ _ _ hPD hS (lv_sub hl [3, 4, 5, 6, 7, 2, 1, 0] rfl)
    · have h := (if_neg cc1).symm.trans h
      refine lv_aload_n hx hb dX8_best_35 rfl (lv_at hl 0 rfl) ?_
      refine lv_aload hx hb dX8_best_36 (lv_at hl 4 rfl) ?_
      obtain ⟨q_6, hq_6, h⟩ := ob2 h
      refine kVV (As := [.ref h2]) (rest := []) C0 (kt_X8_goOn l G h0 a0 h2 a2 f0 A0 f2 A2 hq_6) gi_V_X8_30_X8_goOn (n := 1) rfl (by decide +kernel) rfl ⟨rfl, rfl, Nat.le_of_ble_eq_true rfl, Nat.le_of_ble_eq_true rfl⟩ hPD hS 0 8 rfl rfl rfl [0, 1, 2, 4, 5, 6, 7] [3] [1, 2, 3, 0, 4, 5, 6, 7] (wN := (wX8 G h0 a0 q_6.2 q_6.1 ++ (wI G q1 n1 xs1 ++ (wX1 G h2 a2 f2 A2)))) rfl rfl rfl rfl rfl hl.1 (Nat.le_of_ble_eq_true rfl) dX8_best_38 (fun H locs hPD hS => ?_)
      refine lv_aload_n hx hb dX8_best_41 rfl (lv_at hl 0 rfl) ?_
      obtain ⟨q_7, hq_7, h⟩ := ob2 h
      refine kVV (As := []) (rest := []) C0 (kt_X8_settle l G h0 a0 q_6.2 q_6.1 hq_7) gi_V_X8_27_X8_settle (n := 0) rfl (by decide +kernel) rfl ⟨rfl, rfl, Nat.le_of_ble_eq_true rfl, Nat.le_of_ble_eq_true rfl⟩ hPD hS 0 8 rfl rfl rfl [0, 1, 2] [3, 4, 5, 6, 7] [5, 6, 7, 0, 1, 2, 3, 4] (wN := (wX8 G h0 a0 q_6.2 q_7 ++ (wI G q1 n1 xs1 ++ (wX1 G h2 a2 f2 A2)))) rfl rfl rfl rfl rfl hl.1 (Nat.le_of_ble_eq_true rfl) dX8_best_42 (fun H locs hPD hS => ?_)
      refine lv_iinc (v := l5 + 1) (lv' := [(5, .int (l5 + 1)), (0, .ref h0), (1, .int p1), (2, .int p2), (3, .ref q1), (4, .ref h2)]) hx hb dX8_best_45 hl (k := 5) rfl rfl (by decide) rfl (fun ls hl => ?_)
      refine lv_goto (tgt := 22) hx hb dX8_best_48 (by decide) ?_
      exact hk22 q_7 q_6.2 (l5 + 1) h _ _ _ hPD hS (lv_sub hl [1, 2, 3, 4, 5, 0] rfl)
set_option maxRecDepth 100000 in
set_option maxHeartbeats 4000000 in
theorem ww_f8_best_l22  (C0 : Cx cX8_best 11 (some .int) RX8 p s m args meth c G DA) {h0 : Nat} {a0 : Nat → Nat} {q1 : Nat} {h2 : Nat} {a2 : Nat → Nat} {n1 : Nat} {xs1 : Nat → Int32} {f2 : Nat → Int32} {A2 : Nat → Nat → Int32} {p1 : Int32} {p2 : Int32} (hn1 : n1 < 2147483648)  {res : Int32 × (Nat → Nat → Int32) × (Nat → Int32)}  : ∀ (n : Nat) (A0 : Nat → Nat → Int32) (f0 : Nat → Int32) (l5 : Int32), f8_best_l22 n1 xs1 f2 A2 p1 p2  n A0 f0 l5 = some res → ∀ (H : Heap) (locs : List Loc) (ls : Array Slot), WD G DA (wX8 G h0 a0 f0 A0 ++ (wI G q1 n1 xs1 ++ (wX1 G h2 a2 f2 A2))) H → va_S DA s.heap H locs → lv_has ls 11 [(0, .ref h0), (1, .int p1), (2, .int p2), (3, .ref q1), (4, .ref h2), (5, .int l5)] → W p l e rmX8_best s m args below meth c H locs 0 0 (MQ below (QI G DA res.1 (wX8 G h0 a0 res.2.2 res.2.1 ++ (wI G q1 n1 xs1 ++ (wX1 G h2 a2 f2 A2)))) args s 0 0 DA) (F0 m 22 ls []) := by
  intro n
  induction n with
  | zero => intro A0 f0 l5 h; cases h
  | succ n ih => intro A0 f0 l5 h; exact ww_f8_best_b22 C0 hn1  ih A0 f0 l5 h
set_option maxRecDepth 100000 in
set_option maxHeartbeats 4000000 in
theorem kt_X8_best (l : Launch) (G : Gp) (h0 : Nat) (a0 : Nat → Nat) (q1 : Nat) (h2 : Nat) (a2 : Nat → Nat) (f0 : Nat → Int32) (A0 : Nat → Nat → Int32) (n1 : Nat) (xs1 : Nat → Int32) (f2 : Nat → Int32) (A2 : Nat → Nat → Int32) (p1 : Int32) (p2 : Int32) (hn1 : n1 < 2147483648) : ∀ {r : Int32 × (Nat → Nat → Int32) × (Nat → Int32)}, f8_best f0 A0 n1 xs1 f2 A2 p1 p2 = some r → CtrI l yX8_best cX8_best 11 (some .int) rmX8_best G [.ref h0, .int p1, .int p2, .ref q1, .ref h2] (wX8 G h0 a0 f0 A0 ++ (wI G q1 n1 xs1 ++ (wX1 G h2 a2 f2 A2))) r.1 (wX8 G h0 a0 r.2.2 r.2.1 ++ (wI G q1 n1 xs1 ++ (wX1 G h2 a2 f2 A2))) := by
  intro res h
  refine ctrI_of (cc := cX8_best) (maxL := 11) (ret := (some .int)) (by decide +kernel) rfl (Nat.le_of_ble_eq_true rfl) (fun p e s m below meth c DA C0 hP hD ls hl => ?_)
  have hPD : WD G DA (wX8 G h0 a0 f0 A0 ++ (wI G q1 n1 xs1 ++ (wX1 G h2 a2 f2 A2))) s.heap := ⟨hP, hD⟩
  have hS : va_S DA s.heap s.heap [] := va_S.rf
  have hl : lv_has ls 11 [(0, .ref h0), (1, .int p1), (2, .int p2), (3, .ref q1), (4, .ref h2)] := hl
  obtain ⟨hx, hb, hml, hown, hts⟩ := C0.1
  have hK := C0.2.2.2.1
  unfold f8_best at h
  refine lv_aload_n hx hb dX8_best_0 rfl (lv_at hl 0 rfl) ?_
  refine lv_iconst (v := 0) hx hb dX8_best_1 (by decide) ?_
  refine va_put (D := G.1) (ci := 8) (v := .int 0) (ty := .int) (C := RX8) (T := TX8) (N := 3) hx hb hts inlX8 tyX8 tyX8_ok nmX8 hown hK hPD.1 hPD.2 hS 0 rfl rfl 2 (by decide) (hts _ gw_337) (fun _ h9 => h9) rfl (by decide +kernel) rfl rfl (Nat.le_of_ble_eq_true rfl) dX8_best_2 (fun H locs hP hD hS => ?_)
  obtain ⟨f0_1, ef0_1, h⟩ := lvl h
  have hPD : WD G DA (wX8 G h0 a0 f0_1 A0 ++ (wI G q1 n1 xs1 ++ (wX1 G h2 a2 f2 A2))) H := by rw [ef0_1]; exact ⟨hP, hD⟩
  clear ef0_1 hP hD
  refine lv_aload_n hx hb dX8_best_5 rfl (lv_at hl 0 rfl) ?_
  refine lv_iconst (v := 1) hx hb dX8_best_6 (by decide) ?_
  refine lv_iload_n hx hb dX8_best_7 rfl (lv_at hl 1 rfl) ?_
  refine lv_ishl hx hb dX8_best_8 ?_
  refine lv_iconst (v := 1) hx hb dX8_best_9 (by decide) ?_
  refine lv_iload_n hx hb dX8_best_10 rfl (lv_at hl 1 rfl) ?_
  refine lv_ishl hx hb dX8_best_11 ?_
  obtain ⟨q_2, hq_2, h⟩ := ob2 h
  refine kVV (As := [.int (shl 1 p1), .int (shl 1 p1)]) (rest := []) C0 (kt_X8_add l G h0 a0 f0_1 A0 (shl 1 p1) (shl 1 p1) hq_2) gi_V_X8_23_X8_add (n := 2) rfl (by decide +kernel) rfl ⟨rfl, rfl, Nat.le_of_ble_eq_true rfl, Nat.le_of_ble_eq_true rfl⟩ hPD hS 0 8 rfl rfl rfl [0, 1, 2] [3, 4, 5, 6, 7] [5, 6, 7, 0, 1, 2, 3, 4] (wN := (wX8 G h0 a0 q_2.2 q_2.1 ++ (wI G q1 n1 xs1 ++ (wX1 G h2 a2 f2 A2)))) rfl rfl rfl rfl rfl hl.1 (Nat.le_of_ble_eq_true rfl) dX8_best_12 (fun H locs hPD hS => ?_)
  refine lv_aload_n hx hb dX8_best_15 rfl (lv_at hl 0 rfl) ?_
  obtain ⟨q_3, hq_3, h⟩ := ob2 h
  refine kVV (As := []) (rest := []) C0 (kt_X8_settle l G h0 a0 q_2.2 q_2.1 hq_3) gi_V_X8_27_X8_settle (n := 0) rfl (by decide +kernel) rfl ⟨rfl, rfl, Nat.le_of_ble_eq_true rfl, Nat.le_of_ble_eq_true rfl⟩ hPD hS 0 8 rfl rfl rfl [0, 1, 2] [3, 4, 5, 6, 7] [5, 6, 7, 0, 1, 2, 3, 4] (wN := (wX8 G h0 a0 q_2.2 q_3 ++ (wI G q1 n1 xs1 ++ (wX1 G h2 a2 f2 A2)))) rfl rfl rfl rfl rfl hl.1 (Nat.le_of_ble_eq_true rfl) dX8_best_16 (fun H locs hPD hS => ?_)
  refine lv_iconst (v := 1) hx hb dX8_best_19 (by decide) ?_
  refine lv_istore (lv' := [(5, .int 1), (0, .ref h0), (1, .int p1), (2, .int p2), (3, .ref q1), (4, .ref h2)]) hx hb dX8_best_20 hl (by decide) rfl (fun ls hl => ?_)
  exact ww_f8_best_l22 C0 hn1 NF q_3 q_2.2 1 h _ _ _ hPD hS (lv_sub hl [1, 2, 3, 4, 5, 0] rfl)
abbrev rmX9_place : Room := { frames := 1, cells := 0, slots := 0, locals := 22 }
set_option maxRecDepth 100000 in
set_option maxHeartbeats 4000000 in
theorem kt_X9_place (l : Launch) (G : Gp) (h0 : Nat) (a0 : Nat → Nat) (wk : Option Nat) (a1 : Nat → Nat) (a2 : Nat → Nat) (f0 : Nat → Int32) (A0 : Nat → Nat → Int32) (f1 : Nat → Int32) (A1 : Nat → Nat → Int32) (f2 : Nat → Int32) (A2 : Nat → Nat → Int32) (p1 : Int32) (p2 : Int32) (p3 : Int32) : ∀ {r : Int32 × (Nat → Int32) × (Nat → Nat → Int32)}, f9_place f0 A0 f1 A1 f2 A2 p1 p2 p3 = some r → CtrI l yX9_place cX9_place 4 (some .boolean) rmX9_place G [.ref h0, .int p1, .int p2, .int p3] (wX9 G h0 a0 wk f0 A0 ++ (wX1 G (a0 1) a1 f1 A1 ++ (wX6 G (a0 2) a2 f2 A2))) r.1 (wX9 G h0 a0 wk f0 A0 ++ (wX1 G (a0 1) a1 r.2.1 A1 ++ (wX6 G (a0 2) a2 f2 r.2.2))) := by
  intro res h
  refine ctrI_of (cc := cX9_place) (maxL := 4) (ret := (some .boolean)) (by decide +kernel) rfl (Nat.le_of_ble_eq_true rfl) (fun p e s m below meth c DA C0 hP hD ls hl => ?_)
  have hPD : WD G DA (wX9 G h0 a0 wk f0 A0 ++ (wX1 G (a0 1) a1 f1 A1 ++ (wX6 G (a0 2) a2 f2 A2))) s.heap := ⟨hP, hD⟩
  have hS : va_S DA s.heap s.heap [] := va_S.rf
  have hl : lv_has ls 4 [(0, .ref h0), (1, .int p1), (2, .int p2), (3, .int p3)] := hl
  obtain ⟨hx, hb, hml, hown, hts⟩ := C0.1
  have hK := C0.2.2.2.1
  unfold f9_place at h
  refine lv_iload_n hx hb dX9_place_0 rfl (lv_at hl 1 rfl) ?_
  refine lv_iconst (v := 0) hx hb dX9_place_1 (by decide) ?_
  refine lv_bipush (v := 15) hx hb dX9_place_2 (by decide) ?_
  refine kSI (As := [.int p1, .int 0, .int 15]) (rest := []) C0 (kt_X9_within l G  p1 0 15) gi_S_X9_90_X9_within (n := 3) rfl (by decide +kernel) ⟨rfl, rfl, Nat.le_of_ble_eq_true rfl, Nat.le_of_ble_eq_true rfl⟩ hPD hS [] [0, 1, 2, 3, 4, 5, 6, 7, 8, 9, 10, 11] [0, 1, 2, 3, 4, 5, 6, 7, 8, 9, 10, 11] (wN := (wX9 G h0 a0 wk f0 A0 ++ (wX1 G (a0 1) a1 f1 A1 ++ (wX6 G (a0 2) a2 f2 A2)))) rfl rfl rfl rfl rfl hl.1 (Nat.le_of_ble_eq_true rfl) dX9_place_4 (fun H locs hPD hS => ?_)
  refine lv_if_eq (tgt := 31) hx hb dX9_place_7 (by decide) (fun cc1 => ?_) (fun cc1 => ?_)
  · have h := (if_pos cc1).symm.trans h
    refine lv_iconst (v := 0) hx hb dX9_place_31 (by decide) ?_
    obtain rfl := Option.some.inj h
    exact eZ C0 hPD.1 hPD.2 hS rfl rfl dX9_place_32
  · have h := (if_neg cc1).symm.trans h
    refine lv_iload_n hx hb dX9_place_10 rfl (lv_at hl 2 rfl) ?_
    refine lv_iconst (v := 0) hx hb dX9_place_11 (by decide) ?_
    refine lv_bipush (v := 99) hx hb dX9_place_12 (by decide) ?_
    refine kSI (As := [.int p2, .int 0, .int 99]) (rest := []) C0 (kt_X9_within l G  p2 0 99) gi_S_X9_90_X9_within (n := 3) rfl (by decide +kernel) ⟨rfl, rfl, Nat.le_of_ble_eq_true rfl, Nat.le_of_ble_eq_true rfl⟩ hPD hS [] [0, 1, 2, 3, 4, 5, 6, 7, 8, 9, 10, 11] [0, 1, 2, 3, 4, 5, 6, 7, 8, 9, 10, 11] (wN := (wX9 G h0 a0 wk f0 A0 ++ (wX1 G (a0 1) a1 f1 A1 ++ (wX6 G (a0 2) a2 f2 A2)))) rfl rfl rfl rfl rfl hl.1 (Nat.le_of_ble_eq_true rfl) dX9_place_14 (fun H locs hPD hS => ?_)
    refine lv_if_eq (tgt := 31) hx hb dX9_place_17 (by decide) (fun cc1 => ?_) (fun cc1 => ?_)
    · have h := (if_pos cc1).symm.trans h
      refine lv_iconst (v := 0) hx hb dX9_place_31 (by decide) ?_
      obtain rfl := Option.some.inj h
      exact eZ C0 hPD.1 hPD.2 hS rfl rfl dX9_place_32
    · have h := (if_neg cc1).symm.trans h
      refine lv_iload_n hx hb dX9_place_20 rfl (lv_at hl 3 rfl) ?_
      refine lv_iconst (v := 0) hx hb dX9_place_21 (by decide) ?_
      refine lv_sipush (v := 999) hx hb dX9_place_22 (by decide) ?_
      refine kSI (As := [.int p3, .int 0, .int 999]) (rest := []) C0 (kt_X9_within l G  p3 0 999) gi_S_X9_90_X9_within (n := 3) rfl (by decide +kernel) ⟨rfl, rfl, Nat.le_of_ble_eq_true rfl, Nat.le_of_ble_eq_true rfl⟩ hPD hS [] [0, 1, 2, 3, 4, 5, 6, 7, 8, 9, 10, 11] [0, 1, 2, 3, 4, 5, 6, 7, 8, 9, 10, 11] (wN := (wX9 G h0 a0 wk f0 A0 ++ (wX1 G (a0 1) a1 f1 A1 ++ (wX6 G (a0 2) a2 f2 A2)))) rfl rfl rfl rfl rfl hl.1 (Nat.le_of_ble_eq_true rfl) dX9_place_25 (fun H locs hPD hS => ?_)
      refine lv_if_ne (tgt := 33) hx hb dX9_place_28 (by decide) (fun cc1 => ?_) (fun cc1 => ?_)
      · have h := (if_neg cc1).symm.trans h
        refine lv_aload_n hx hb dX9_place_33 rfl (lv_at hl 0 rfl) ?_
        refine va_get (D := G.1) (ci := 9) (v := .ref (a0 1)) (C := RX9) (T := TX9) (N := 15) hx hb hts inlX9 hown hK hPD.1 0 rfl rfl 1 (by decide) (hts _ gw_354) (fun _ h9 => h9) rfl dX9_place_34 ?_
        refine lv_dup hx hb dX9_place_37 rfl ?_
        refine va_get (D := G.1) (ci := 1) (v := .int (f1 0)) (C := RX1) (T := TX1) (N := 4) hx hb hts inlX1 hown hK hPD.1 2 rfl rfl 0 (by decide) (hts _ gw_355) (fun _ h9 => h9) rfl dX9_place_38 ?_
        refine lv_iconst (v := 1) hx hb dX9_place_41 (by decide) ?_
        refine lv_iload_n hx hb dX9_place_42 rfl (lv_at hl 1 rfl) ?_
        refine lv_ishl hx hb dX9_place_43 ?_
        refine lv_ior hx hb dX9_place_44 ?_
        refine va_put (D := G.1) (ci := 1) (v := .int ((f1 0) ||| (shl 1 p1))) (ty := .int) (C := RX1) (T := TX1) (N := 4) hx hb hts inlX1 tyX1 tyX1_ok nmX1 hown hK hPD.1 hPD.2 hS 2 rfl rfl 0 (by decide) (hts _ gw_355) (fun _ h9 => h9) rfl (by decide +kernel) rfl rfl (Nat.le_of_ble_eq_true rfl) dX9_place_45 (fun H locs hP hD hS => ?_)
        obtain ⟨f1_1, ef1_1, h⟩ := lvl h
        have hPD : WD G DA (wX9 G h0 a0 wk f0 A0 ++ (wX1 G (a0 1) a1 f1_1 A1 ++ (wX6 G (a0 2) a2 f2 A2))) H := by rw [ef1_1]; exact ⟨hP, hD⟩
        clear ef1_1 hP hD
        refine lv_aload_n hx hb dX9_place_48 rfl (lv_at hl 0 rfl) ?_
        refine va_get (D := G.1) (ci := 9) (v := .ref (a0 2)) (C := RX9) (T := TX9) (N := 15) hx hb hts inlX9 hown hK hPD.1 0 rfl rfl 2 (by decide) (hts _ gw_356) (fun _ h9 => h9) rfl dX9_place_49 ?_
        refine va_get (D := G.1) (ci := 6) (v := .ref (a2 0)) (C := RX6) (T := TX6) (N := 10) hx hb hts inlX6 hown hK hPD.1 6 rfl rfl 0 (by decide) (hts _ gw_357) (fun _ h9 => h9) rfl dX9_place_52 ?_
        refine lv_iload_n hx hb dX9_place_55 rfl (lv_at hl 1 rfl) ?_
        refine lv_iload_n hx hb dX9_place_56 rfl (lv_at hl 2 rfl) ?_
        refine kSV (As := [.ref (a2 0), .int p1, .int p2]) (rest := []) C0 (kt_X9_put l G (a2 0) 16 (A2 0) p1 p2 (by decide)) gi_S_X9_101_X9_put (n := 3) rfl (by decide +kernel) ⟨rfl, rfl, Nat.le_of_ble_eq_true rfl, Nat.le_of_ble_eq_true rfl⟩ hPD hS [7] [0, 1, 2, 3, 4, 5, 6, 8, 9, 10, 11] [0, 1, 2, 3, 4, 5, 6, 11, 7, 8, 9, 10] (wN := (wX9 G h0 a0 wk f0 A0 ++ (wX1 G (a0 1) a1 f1_1 A1 ++ (wX6 G (a0 2) a2 f2 (updA A2 0 (f9_put 16 (A2 0) p1 p2)))))) rfl rfl rfl rfl rfl hl.1 (Nat.le_of_ble_eq_true rfl) dX9_place_57 (fun H locs hPD hS => ?_)
        obtain ⟨A2_2, eA2_2, h⟩ := lvl h
        have hPD : WD G DA (wX9 G h0 a0 wk f0 A0 ++ (wX1 G (a0 1) a1 f1_1 A1 ++ (wX6 G (a0 2) a2 f2 A2_2))) H := by rw [eA2_2]; exact hPD
        clear eA2_2
        refine lv_aload_n hx hb dX9_place_60 rfl (lv_at hl 0 rfl) ?_
        refine va_get (D := G.1) (ci := 9) (v := .ref (a0 2)) (C := RX9) (T := TX9) (N := 15) hx hb hts inlX9 hown hK hPD.1 0 rfl rfl 2 (by decide) (hts _ gw_356) (fun _ h9 => h9) rfl dX9_place_61 ?_
        refine va_get (D := G.1) (ci := 6) (v := .ref (a2 1)) (C := RX6) (T := TX6) (N := 10) hx hb hts inlX6 hown hK hPD.1 6 rfl rfl 1 (by decide) (hts _ gw_359) (fun _ h9 => h9) rfl dX9_place_64 ?_
        refine lv_iload_n hx hb dX9_place_67 rfl (lv_at hl 1 rfl) ?_
        refine lv_iload_n hx hb dX9_place_68 rfl (lv_at hl 3 rfl) ?_
        refine kSV (As := [.ref (a2 1), .int p1, .int p3]) (rest := []) C0 (kt_X9_put l G (a2 1) 16 (A2_2 1) p1 p3 (by decide)) gi_S_X9_101_X9_put (n := 3) rfl (by decide +kernel) ⟨rfl, rfl, Nat.le_of_ble_eq_true rfl, Nat.le_of_ble_eq_true rfl⟩ hPD hS [8] [0, 1, 2, 3, 4, 5, 6, 7, 9, 10, 11] [0, 1, 2, 3, 4, 5, 6, 7, 11, 8, 9, 10] (wN := (wX9 G h0 a0 wk f0 A0 ++ (wX1 G (a0 1) a1 f1_1 A1 ++ (wX6 G (a0 2) a2 f2 (updA A2_2 1 (f9_put 16 (A2_2 1) p1 p3)))))) rfl rfl rfl rfl rfl hl.1 (Nat.le_of_ble_eq_true rfl) dX9_place_69 (fun H locs hPD hS => ?_)
        obtain ⟨A2_3, eA2_3, h⟩ := lvl h
        have hPD : WD G DA (wX9 G h0 a0 wk f0 A0 ++ (wX1 G (a0 1) a1 f1_1 A1 ++ (wX6 G (a0 2) a2 f2 A2_3))) H := by rw [eA2_3]; exact hPD
        clear eA2_3
        refine lv_iconst (v := 1) hx hb dX9_place_72 (by decide) ?_
        obtain rfl := Option.some.inj h
        exact eZ C0 hPD.1 hPD.2 hS rfl rfl dX9_place_73
      · have h := (if_pos cc1).symm.trans h
        refine lv_iconst (v := 0) hx hb dX9_place_31 (by decide) ?_
        obtain rfl := Option.some.inj h
        exact eZ C0 hPD.1 hPD.2 hS rfl rfl dX9_place_32
abbrev rmX9_constable : Room := { frames := 3, cells := 0, slots := 0, locals := 64 }
set_option maxRecDepth 100000 in
set_option maxHeartbeats 4000000 in
theorem kt_X9_constable (l : Launch) (G : Gp) (h0 : Nat) (a0 : Nat → Nat) (wk : Option Nat) (a1 : Nat → Nat) (a2 : Nat → Nat) (f0 : Nat → Int32) (A0 : Nat → Nat → Int32) (f1 : Nat → Int32) (A1 : Nat → Nat → Int32) (f2 : Nat → Int32) (A2 : Nat → Nat → Int32) (p1 : Int32) (p2 : Int32) : ∀ {r : Int32 × (Nat → Nat → Int32) × (Nat → Int32)}, f9_constable f0 A0 f1 A1 f2 A2 p1 p2 = some r → CtrI l yX9_constable cX9_constable 3 (some .boolean) rmX9_constable G [.ref h0, .int p1, .int p2] (wX9 G h0 a0 wk f0 A0 ++ (wX1 G (a0 1) a1 f1 A1 ++ (wX6 G (a0 2) a2 f2 A2))) r.1 (wX9 G h0 a0 wk f0 A0 ++ (wX1 G (a0 1) a1 f1 A1 ++ (wX6 G (a0 2) a2 r.2.2 r.2.1))) := by
  intro res h
  refine ctrI_of (cc := cX9_constable) (maxL := 3) (ret := (some .boolean)) (by decide +kernel) rfl (Nat.le_of_ble_eq_true rfl) (fun p e s m below meth c DA C0 hP hD ls hl => ?_)
  have hPD : WD G DA (wX9 G h0 a0 wk f0 A0 ++ (wX1 G (a0 1) a1 f1 A1 ++ (wX6 G (a0 2) a2 f2 A2))) s.heap := ⟨hP, hD⟩
  have hS : va_S DA s.heap s.heap [] := va_S.rf
  have hl : lv_has ls 3 [(0, .ref h0), (1, .int p1), (2, .int p2)] := hl
  obtain ⟨hx, hb, hml, hown, hts⟩ := C0.1
  have hK := C0.2.2.2.1
  unfold f9_constable at h
  refine lv_iload_n hx hb dX9_constable_0 rfl (lv_at hl 1 rfl) ?_
  refine lv_iconst (v := 0) hx hb dX9_constable_1 (by decide) ?_
  refine lv_bipush (v := 7) hx hb dX9_constable_2 (by decide) ?_
  refine kSI (As := [.int p1, .int 0, .int 7]) (rest := []) C0 (kt_X9_within l G  p1 0 7) gi_S_X9_90_X9_within (n := 3) rfl (by decide +kernel) ⟨rfl, rfl, Nat.le_of_ble_eq_true rfl, Nat.le_of_ble_eq_true rfl⟩ hPD hS [] [0, 1, 2, 3, 4, 5, 6, 7, 8, 9, 10, 11] [0, 1, 2, 3, 4, 5, 6, 7, 8, 9, 10, 11] (wN := (wX9 G h0 a0 wk f0 A0 ++ (wX1 G (a0 1) a1 f1 A1 ++ (wX6 G (a0 2) a2 f2 A2)))) rfl rfl rfl rfl rfl hl.1 (Nat.le_of_ble_eq_true rfl) dX9_constable_4 (fun H locs hPD hS => ?_)
  refine lv_if_eq (tgt := 21) hx hb dX9_constable_7 (by decide) (fun cc1 => ?_) (fun cc1 => ?_)
  · have h := (if_pos cc1).symm.trans h
    refine lv_iconst (v := 0) hx hb dX9_constable_21 (by decide) ?_
    obtain rfl := Option.some.inj h
    exact eZ C0 hPD.1 hPD.2 hS rfl rfl dX9_constable_22
  · have h := (if_neg cc1).symm.trans h
    refine lv_aload_n hx hb dX9_constable_10 rfl (lv_at hl 0 rfl) ?_
    refine va_get (D := G.1) (ci := 9) (v := .ref (a0 1)) (C := RX9) (T := TX9) (N := 15) hx hb hts inlX9 hown hK hPD.1 0 rfl rfl 1 (by decide) (hts _ gw_354) (fun _ h9 => h9) rfl dX9_constable_11 ?_
    refine lv_iload_n hx hb dX9_constable_14 rfl (lv_at hl 2 rfl) ?_
    refine kVI (As := [.int p2]) (rest := []) C0 (kt_X1_isTold l G (a0 1) a1 f1 A1 p2) gi_V_X9_108_X1_isTold (n := 1) rfl (by decide +kernel) rfl ⟨rfl, rfl, Nat.le_of_ble_eq_true rfl, Nat.le_of_ble_eq_true rfl⟩ hPD hS 2 1 rfl rfl rfl [2, 3, 4, 5] [0, 1, 6, 7, 8, 9, 10, 11] [0, 1, 8, 9, 10, 11, 2, 3, 4, 5, 6, 7] (wN := (wX9 G h0 a0 wk f0 A0 ++ (wX1 G (a0 1) a1 f1 A1 ++ (wX6 G (a0 2) a2 f2 A2)))) rfl rfl rfl rfl rfl hl.1 (Nat.le_of_ble_eq_true rfl) dX9_constable_15 (fun H locs hPD hS => ?_)
    refine lv_if_ne (tgt := 23) hx hb dX9_constable_18 (by decide) (fun cc1 => ?_) (fun cc1 => ?_)
    · have h := (if_neg cc1).symm.trans h
      refine lv_aload_n hx hb dX9_constable_23 rfl (lv_at hl 0 rfl) ?_
      refine va_get (D := G.1) (ci := 9) (v := .ref (a0 2)) (C := RX9) (T := TX9) (N := 15) hx hb hts inlX9 hown hK hPD.1 0 rfl rfl 2 (by decide) (hts _ gw_356) (fun _ h9 => h9) rfl dX9_constable_24 ?_
      refine lv_dup hx hb dX9_constable_27 rfl ?_
      refine va_get (D := G.1) (ci := 6) (v := .int (f2 5)) (C := RX6) (T := TX6) (N := 10) hx hb hts inlX6 hown hK hPD.1 6 rfl rfl 5 (by decide) (hts _ gw_361) (fun _ h9 => h9) rfl dX9_constable_28 ?_
      refine lv_iconst (v := 1) hx hb dX9_constable_31 (by decide) ?_
      refine lv_iload_n hx hb dX9_constable_32 rfl (lv_at hl 1 rfl) ?_
      refine lv_ishl hx hb dX9_constable_33 ?_
      refine lv_ior hx hb dX9_constable_34 ?_
      refine va_put (D := G.1) (ci := 6) (v := .int ((f2 5) ||| (shl 1 p1))) (ty := .int) (C := RX6) (T := TX6) (N := 10) hx hb hts inlX6 tyX6 tyX6_ok nmX6 hown hK hPD.1 hPD.2 hS 6 rfl rfl 5 (by decide) (hts _ gw_361) (fun _ h9 => h9) rfl (by decide +kernel) rfl rfl (Nat.le_of_ble_eq_true rfl) dX9_constable_35 (fun H locs hP hD hS => ?_)
      obtain ⟨f2_1, ef2_1, h⟩ := lvl h
      have hPD : WD G DA (wX9 G h0 a0 wk f0 A0 ++ (wX1 G (a0 1) a1 f1 A1 ++ (wX6 G (a0 2) a2 f2_1 A2))) H := by rw [ef2_1]; exact ⟨hP, hD⟩
      clear ef2_1 hP hD
      refine lv_aload_n hx hb dX9_constable_38 rfl (lv_at hl 0 rfl) ?_
      refine va_get (D := G.1) (ci := 9) (v := .ref (a0 2)) (C := RX9) (T := TX9) (N := 15) hx hb hts inlX9 hown hK hPD.1 0 rfl rfl 2 (by decide) (hts _ gw_356) (fun _ h9 => h9) rfl dX9_constable_39 ?_
      refine va_get (D := G.1) (ci := 6) (v := .ref (a2 3)) (C := RX6) (T := TX6) (N := 10) hx hb hts inlX6 hown hK hPD.1 6 rfl rfl 3 (by decide) (hts _ gw_362) (fun _ h9 => h9) rfl dX9_constable_42 ?_
      refine lv_iload_n hx hb dX9_constable_45 rfl (lv_at hl 1 rfl) ?_
      refine lv_iload_n hx hb dX9_constable_46 rfl (lv_at hl 2 rfl) ?_
      refine kSV (As := [.ref (a2 3), .int p1, .int p2]) (rest := []) C0 (kt_X9_put l G (a2 3) 8 (A2 3) p1 p2 (by decide)) gi_S_X9_101_X9_put (n := 3) rfl (by decide +kernel) ⟨rfl, rfl, Nat.le_of_ble_eq_true rfl, Nat.le_of_ble_eq_true rfl⟩ hPD hS [10] [0, 1, 2, 3, 4, 5, 6, 7, 8, 9, 11] [0, 1, 2, 3, 4, 5, 6, 7, 8, 9, 11, 10] (wN := (wX9 G h0 a0 wk f0 A0 ++ (wX1 G (a0 1) a1 f1 A1 ++ (wX6 G (a0 2) a2 f2_1 (updA A2 3 (f9_put 8 (A2 3) p1 p2)))))) rfl rfl rfl rfl rfl hl.1 (Nat.le_of_ble_eq_true rfl) dX9_constable_47 (fun H locs hPD hS => ?_)
      obtain ⟨A2_2, eA2_2, h⟩ := lvl h
      have hPD : WD G DA (wX9 G h0 a0 wk f0 A0 ++ (wX1 G (a0 1) a1 f1 A1 ++ (wX6 G (a0 2) a2 f2_1 A2_2))) H := by rw [eA2_2]; exact hPD
      clear eA2_2
      refine lv_aload_n hx hb dX9_constable_50 rfl (lv_at hl 0 rfl) ?_
      refine va_get (D := G.1) (ci := 9) (v := .ref (a0 2)) (C := RX9) (T := TX9) (N := 15) hx hb hts inlX9 hown hK hPD.1 0 rfl rfl 2 (by decide) (hts _ gw_356) (fun _ h9 => h9) rfl dX9_constable_51 ?_
      refine va_get (D := G.1) (ci := 6) (v := .ref (a2 4)) (C := RX6) (T := TX6) (N := 10) hx hb hts inlX6 hown hK hPD.1 6 rfl rfl 4 (by decide) (hts _ gw_363) (fun _ h9 => h9) rfl dX9_constable_54 ?_
      refine lv_iload_n hx hb dX9_constable_57 rfl (lv_at hl 1 rfl) ?_
      refine lv_iconst (v := 0) hx hb dX9_constable_58 (by decide) ?_
      refine kSV (As := [.ref (a2 4), .int p1, .int 0]) (rest := []) C0 (kt_X9_put l G (a2 4) 8 (A2_2 4) p1 0 (by decide)) gi_S_X9_101_X9_put (n := 3) rfl (by decide +kernel) ⟨rfl, rfl, Nat.le_of_ble_eq_true rfl, Nat.le_of_ble_eq_true rfl⟩ hPD hS [11] [0, 1, 2, 3, 4, 5, 6, 7, 8, 9, 10] [0, 1, 2, 3, 4, 5, 6, 7, 8, 9, 10, 11] (wN := (wX9 G h0 a0 wk f0 A0 ++ (wX1 G (a0 1) a1 f1 A1 ++ (wX6 G (a0 2) a2 f2_1 (updA A2_2 4 (f9_put 8 (A2_2 4) p1 0)))))) rfl rfl rfl rfl rfl hl.1 (Nat.le_of_ble_eq_true rfl) dX9_constable_59 (fun H locs hPD hS => ?_)
      obtain ⟨A2_3, eA2_3, h⟩ := lvl h
      have hPD : WD G DA (wX9 G h0 a0 wk f0 A0 ++ (wX1 G (a0 1) a1 f1 A1 ++ (wX6 G (a0 2) a2 f2_1 A2_3))) H := by rw [eA2_3]; exact hPD
      clear eA2_3
      refine lv_iconst (v := 1) hx hb dX9_constable_62 (by decide) ?_
      obtain rfl := Option.some.inj h
      exact eZ C0 hPD.1 hPD.2 hS rfl rfl dX9_constable_63
    · have h := (if_pos cc1).symm.trans h
      refine lv_iconst (v := 0) hx hb dX9_constable_21 (by decide) ?_
      obtain rfl := Option.some.inj h
      exact eZ C0 hPD.1 hPD.2 hS rfl rfl dX9_constable_22
abbrev rmX9_seed : Room := { frames := 1, cells := 0, slots := 0, locals := 22 }
set_option maxRecDepth 100000 in
set_option maxHeartbeats 4000000 in
theorem kt_X9_seed (l : Launch) (G : Gp) (h0 : Nat) (a0 : Nat → Nat) (wk : Option Nat) (a1 : Nat → Nat) (f0 : Nat → Int32) (A0 : Nat → Nat → Int32) (f1 : Nat → Int32) (A1 : Nat → Nat → Int32) (p1 : Int32) : ∀ {r : Int32 × (Nat → Int32)}, f9_seed f0 A0 f1 A1 p1 = some r → CtrI l yX9_seed cX9_seed 2 (some .boolean) rmX9_seed G [.ref h0, .int p1] (wX9 G h0 a0 wk f0 A0 ++ (wX6 G (a0 2) a1 f1 A1)) r.1 (wX9 G h0 a0 wk f0 A0 ++ (wX6 G (a0 2) a1 r.2 A1)) := by
  intro res h
  refine ctrI_of (cc := cX9_seed) (maxL := 2) (ret := (some .boolean)) (by decide +kernel) rfl (Nat.le_of_ble_eq_true rfl) (fun p e s m below meth c DA C0 hP hD ls hl => ?_)
  have hPD : WD G DA (wX9 G h0 a0 wk f0 A0 ++ (wX6 G (a0 2) a1 f1 A1)) s.heap := ⟨hP, hD⟩
  have hS : va_S DA s.heap s.heap [] := va_S.rf
  have hl : lv_has ls 2 [(0, .ref h0), (1, .int p1)] := hl
  obtain ⟨hx, hb, hml, hown, hts⟩ := C0.1
  have hK := C0.2.2.2.1
  unfold f9_seed at h
  refine lv_iload_n hx hb dX9_seed_0 rfl (lv_at hl 1 rfl) ?_
  refine lv_iconst (v := 0) hx hb dX9_seed_1 (by decide) ?_
  refine lv_ldc (v := 65535) hx hb hown (hts _ gw_364) dX9_seed_2 ?_
  refine kSI (As := [.int p1, .int 0, .int 65535]) (rest := []) C0 (kt_X9_within l G  p1 0 65535) gi_S_X9_90_X9_within (n := 3) rfl (by decide +kernel) ⟨rfl, rfl, Nat.le_of_ble_eq_true rfl, Nat.le_of_ble_eq_true rfl⟩ hPD hS [] [0, 1, 2, 3, 4, 5, 6, 7] [0, 1, 2, 3, 4, 5, 6, 7] (wN := (wX9 G h0 a0 wk f0 A0 ++ (wX6 G (a0 2) a1 f1 A1))) rfl rfl rfl rfl rfl hl.1 (Nat.le_of_ble_eq_true rfl) dX9_seed_4 (fun H locs hPD hS => ?_)
  refine lv_if_ne (tgt := 12) hx hb dX9_seed_7 (by decide) (fun cc1 => ?_) (fun cc1 => ?_)
  · have h := (if_neg cc1).symm.trans h
    refine lv_aload_n hx hb dX9_seed_12 rfl (lv_at hl 0 rfl) ?_
    refine va_get (D := G.1) (ci := 9) (v := .ref (a0 2)) (C := RX9) (T := TX9) (N := 15) hx hb hts inlX9 hown hK hPD.1 0 rfl rfl 2 (by decide) (hts _ gw_356) (fun _ h9 => h9) rfl dX9_seed_13 ?_
    refine lv_iload_n hx hb dX9_seed_16 rfl (lv_at hl 1 rfl) ?_
    refine va_put (D := G.1) (ci := 6) (v := .int p1) (ty := .int) (C := RX6) (T := TX6) (N := 10) hx hb hts inlX6 tyX6 tyX6_ok nmX6 hown hK hPD.1 hPD.2 hS 2 rfl rfl 9 (by decide) (hts _ gw_365) (fun _ h9 => h9) rfl (by decide +kernel) rfl rfl (Nat.le_of_ble_eq_true rfl) dX9_seed_17 (fun H locs hP hD hS => ?_)
    obtain ⟨f1_1, ef1_1, h⟩ := lvl h
    have hPD : WD G DA (wX9 G h0 a0 wk f0 A0 ++ (wX6 G (a0 2) a1 f1_1 A1)) H := by rw [ef1_1]; exact ⟨hP, hD⟩
    clear ef1_1 hP hD
    refine lv_iconst (v := 1) hx hb dX9_seed_20 (by decide) ?_
    obtain rfl := Option.some.inj h
    exact eZ C0 hPD.1 hPD.2 hS rfl rfl dX9_seed_21
  · have h := (if_pos cc1).symm.trans h
    refine lv_iconst (v := 0) hx hb dX9_seed_10 (by decide) ?_
    obtain rfl := Option.some.inj h
    exact eZ C0 hPD.1 hPD.2 hS rfl rfl dX9_seed_11
abbrev rmX9_feed : Room := { frames := 2, cells := 0, slots := 0, locals := 44 }
set_option maxRecDepth 100000 in
set_option maxHeartbeats 4000000 in
theorem kt_X9_feed (l : Launch) (G : Gp) (h0 : Nat) (a0 : Nat → Nat) (wk : Option Nat) (a1 : Nat → Nat) (f0 : Nat → Int32) (A0 : Nat → Nat → Int32) (f1 : Nat → Int32) (A1 : Nat → Nat → Int32) (p1 : Int32) (p2 : Int32) (p3 : Int32) (p4 : Int32) (p5 : Int32) : ∀ {r : Int32 × (Nat → Nat → Int32) × (Nat → Int32)}, f9_feed f0 A0 f1 A1 p1 p2 p3 p4 p5 = some r → CtrI l yX9_feed cX9_feed 6 (some .int) rmX9_feed G [.ref h0, .int p1, .int p2, .int p3, .int p4, .int p5] (wX9 G h0 a0 wk f0 A0 ++ (wX7 G (a0 0) a1 f1 A1)) r.1 (wX9 G h0 a0 wk f0 A0 ++ (wX7 G (a0 0) a1 r.2.2 r.2.1)) := by
  intro res h
  refine ctrI_of (cc := cX9_feed) (maxL := 6) (ret := (some .int)) (by decide +kernel) rfl (Nat.le_of_ble_eq_true rfl) (fun p e s m below meth c DA C0 hP hD ls hl => ?_)
  have hPD : WD G DA (wX9 G h0 a0 wk f0 A0 ++ (wX7 G (a0 0) a1 f1 A1)) s.heap := ⟨hP, hD⟩
  have hS : va_S DA s.heap s.heap [] := va_S.rf
  have hl : lv_has ls 6 [(0, .ref h0), (1, .int p1), (2, .int p2), (3, .int p3), (4, .int p4), (5, .int p5)] := hl
  obtain ⟨hx, hb, hml, hown, hts⟩ := C0.1
  have hK := C0.2.2.2.1
  unfold f9_feed at h
  refine lv_aload_n hx hb dX9_feed_0 rfl (lv_at hl 0 rfl) ?_
  refine va_get (D := G.1) (ci := 9) (v := .ref (a0 0)) (C := RX9) (T := TX9) (N := 15) hx hb hts inlX9 hown hK hPD.1 0 rfl rfl 0 (by decide) (hts _ gw_366) (fun _ h9 => h9) rfl dX9_feed_1 ?_
  refine va_get (D := G.1) (ci := 7) (v := .int (f1 1)) (C := RX7) (T := TX7) (N := 6) hx hb hts inlX7 hown hK hPD.1 2 rfl rfl 1 (by decide) (hts _ gw_367) (fun _ h9 => h9) rfl dX9_feed_4 ?_
  refine lv_bipush (v := 20) hx hb dX9_feed_7 (by decide) ?_
  refine lv_iadd hx hb dX9_feed_9 ?_
  refine lv_sipush (v := 260) hx hb dX9_feed_10 (by decide) ?_
  refine lv_icmp_le (tgt := 18) hx hb dX9_feed_13 (by decide) (fun cc1 => ?_) (fun cc1 => ?_)
  · have h := (if_pos cc1).symm.trans h
    refine lv_aload_n hx hb dX9_feed_18 rfl (lv_at hl 0 rfl) ?_
    refine va_get (D := G.1) (ci := 9) (v := .ref (a0 0)) (C := RX9) (T := TX9) (N := 15) hx hb hts inlX9 hown hK hPD.1 0 rfl rfl 0 (by decide) (hts _ gw_366) (fun _ h9 => h9) rfl dX9_feed_19 ?_
    refine lv_iload_n hx hb dX9_feed_22 rfl (lv_at hl 1 rfl) ?_
    obtain ⟨q_1, hq_1, h⟩ := ob2 h
    refine kVV (As := [.int p1]) (rest := []) C0 (kt_X7_append l G (a0 0) a1 f1 A1 p1 hq_1) gi_V_X9_128_X7_append (n := 1) rfl (by decide +kernel) rfl ⟨rfl, rfl, Nat.le_of_ble_eq_true rfl, Nat.le_of_ble_eq_true rfl⟩ hPD hS 2 7 rfl rfl rfl [2, 3] [0, 1] [0, 1, 2, 3] (wN := (wX9 G h0 a0 wk f0 A0 ++ (wX7 G (a0 0) a1 q_1.2 q_1.1))) rfl rfl rfl rfl rfl hl.1 (Nat.le_of_ble_eq_true rfl) dX9_feed_23 (fun H locs hPD hS => ?_)
    refine lv_aload_n hx hb dX9_feed_26 rfl (lv_at hl 0 rfl) ?_
    refine va_get (D := G.1) (ci := 9) (v := .ref (a0 0)) (C := RX9) (T := TX9) (N := 15) hx hb hts inlX9 hown hK hPD.1 0 rfl rfl 0 (by decide) (hts _ gw_366) (fun _ h9 => h9) rfl dX9_feed_27 ?_
    refine lv_iload_n hx hb dX9_feed_30 rfl (lv_at hl 2 rfl) ?_
    obtain ⟨q_2, hq_2, h⟩ := ob2 h
    refine kVV (As := [.int p2]) (rest := []) C0 (kt_X7_append l G (a0 0) a1 q_1.2 q_1.1 p2 hq_2) gi_V_X9_128_X7_append (n := 1) rfl (by decide +kernel) rfl ⟨rfl, rfl, Nat.le_of_ble_eq_true rfl, Nat.le_of_ble_eq_true rfl⟩ hPD hS 2 7 rfl rfl rfl [2, 3] [0, 1] [0, 1, 2, 3] (wN := (wX9 G h0 a0 wk f0 A0 ++ (wX7 G (a0 0) a1 q_2.2 q_2.1))) rfl rfl rfl rfl rfl hl.1 (Nat.le_of_ble_eq_true rfl) dX9_feed_31 (fun H locs hPD hS => ?_)
    refine lv_aload_n hx hb dX9_feed_34 rfl (lv_at hl 0 rfl) ?_
    refine va_get (D := G.1) (ci := 9) (v := .ref (a0 0)) (C := RX9) (T := TX9) (N := 15) hx hb hts inlX9 hown hK hPD.1 0 rfl rfl 0 (by decide) (hts _ gw_366) (fun _ h9 => h9) rfl dX9_feed_35 ?_
    refine lv_iload_n hx hb dX9_feed_38 rfl (lv_at hl 3 rfl) ?_
    obtain ⟨q_3, hq_3, h⟩ := ob2 h
    refine kVV (As := [.int p3]) (rest := []) C0 (kt_X7_append l G (a0 0) a1 q_2.2 q_2.1 p3 hq_3) gi_V_X9_128_X7_append (n := 1) rfl (by decide +kernel) rfl ⟨rfl, rfl, Nat.le_of_ble_eq_true rfl, Nat.le_of_ble_eq_true rfl⟩ hPD hS 2 7 rfl rfl rfl [2, 3] [0, 1] [0, 1, 2, 3] (wN := (wX9 G h0 a0 wk f0 A0 ++ (wX7 G (a0 0) a1 q_3.2 q_3.1))) rfl rfl rfl rfl rfl hl.1 (Nat.le_of_ble_eq_true rfl) dX9_feed_39 (fun H locs hPD hS => ?_)
    refine lv_aload_n hx hb dX9_feed_42 rfl (lv_at hl 0 rfl) ?_
    refine va_get (D := G.1) (ci := 9) (v := .ref (a0 0)) (C := RX9) (T := TX9) (N := 15) hx hb hts inlX9 hown hK hPD.1 0 rfl rfl 0 (by decide) (hts _ gw_366) (fun _ h9 => h9) rfl dX9_feed_43 ?_
    refine lv_iload hx hb dX9_feed_46 (lv_at hl 4 rfl) ?_
    obtain ⟨q_4, hq_4, h⟩ := ob2 h
    refine kVV (As := [.int p4]) (rest := []) C0 (kt_X7_append l G (a0 0) a1 q_3.2 q_3.1 p4 hq_4) gi_V_X9_128_X7_append (n := 1) rfl (by decide +kernel) rfl ⟨rfl, rfl, Nat.le_of_ble_eq_true rfl, Nat.le_of_ble_eq_true rfl⟩ hPD hS 2 7 rfl rfl rfl [2, 3] [0, 1] [0, 1, 2, 3] (wN := (wX9 G h0 a0 wk f0 A0 ++ (wX7 G (a0 0) a1 q_4.2 q_4.1))) rfl rfl rfl rfl rfl hl.1 (Nat.le_of_ble_eq_true rfl) dX9_feed_48 (fun H locs hPD hS => ?_)
    refine lv_aload_n hx hb dX9_feed_51 rfl (lv_at hl 0 rfl) ?_
    refine va_get (D := G.1) (ci := 9) (v := .ref (a0 0)) (C := RX9) (T := TX9) (N := 15) hx hb hts inlX9 hown hK hPD.1 0 rfl rfl 0 (by decide) (hts _ gw_366) (fun _ h9 => h9) rfl dX9_feed_52 ?_
    refine lv_iload hx hb dX9_feed_55 (lv_at hl 5 rfl) ?_
    obtain ⟨q_5, hq_5, h⟩ := ob2 h
    refine kVV (As := [.int p5]) (rest := []) C0 (kt_X7_append l G (a0 0) a1 q_4.2 q_4.1 p5 hq_5) gi_V_X9_128_X7_append (n := 1) rfl (by decide +kernel) rfl ⟨rfl, rfl, Nat.le_of_ble_eq_true rfl, Nat.le_of_ble_eq_true rfl⟩ hPD hS 2 7 rfl rfl rfl [2, 3] [0, 1] [0, 1, 2, 3] (wN := (wX9 G h0 a0 wk f0 A0 ++ (wX7 G (a0 0) a1 q_5.2 q_5.1))) rfl rfl rfl rfl rfl hl.1 (Nat.le_of_ble_eq_true rfl) dX9_feed_57 (fun H locs hPD hS => ?_)
    refine lv_aload_n hx hb dX9_feed_60 rfl (lv_at hl 0 rfl) ?_
    refine va_get (D := G.1) (ci := 9) (v := .ref (a0 0)) (C := RX9) (T := TX9) (N := 15) hx hb hts inlX9 hown hK hPD.1 0 rfl rfl 0 (by decide) (hts _ gw_366) (fun _ h9 => h9) rfl dX9_feed_61 ?_
    refine va_get (D := G.1) (ci := 7) (v := .int (q_5.2 1)) (C := RX7) (T := TX7) (N := 6) hx hb hts inlX7 hown hK hPD.1 2 rfl rfl 1 (by decide) (hts _ gw_367) (fun _ h9 => h9) rfl dX9_feed_64 ?_
    obtain rfl := Option.some.inj h
    exact eI C0 hPD.1 hPD.2 hS rfl dX9_feed_67
  · have h := (if_neg cc1).symm.trans h
    refine lv_iconst (v := (-1)) hx hb dX9_feed_16 (by decide) ?_
    obtain rfl := Option.some.inj h
    exact eI C0 hPD.1 hPD.2 hS rfl dX9_feed_17
abbrev rmX9_law : Room := { frames := 71, cells := 0, slots := 0, locals := 1690 }
set_option maxRecDepth 100000 in
set_option maxHeartbeats 4000000 in
theorem kt_X9_law (l : Launch) (G : Gp) (h0 : Nat) (a0 : Nat → Nat) (wk : Option Nat) (a1 : Nat → Nat) (a2 : Nat → Nat) (a3 : Nat → Nat) (f0 : Nat → Int32) (A0 : Nat → Nat → Int32) (f1 : Nat → Int32) (A1 : Nat → Nat → Int32) (f2 : Nat → Int32) (A2 : Nat → Nat → Int32) (f3 : Nat → Int32) (A3 : Nat → Nat → Int32) (p1 : Int32) : ∀ {r : Int32 × (Nat → Int32) × (Nat → Nat → Int32) × (Nat → Int32) × (Nat → Nat → Int32) × (Nat → Int32)}, f9_law f0 A0 f1 A1 f2 A2 f3 A3 p1 = some r → CtrIE l yX9_law cX9_law 3 (some .int) rmX9_law G [.ref h0, .int p1] (wX9 G h0 a0 wk f0 A0 ++ (wX7 G (a0 0) a1 f1 A1 ++ (wX2 G (a0 11) a2 f2 A2 ++ (wX2 G (a0 12) a3 f3 A3)))) r.1 (fun u : (Nat → Nat) × (Nat → Nat) × (Nat → Nat) × (Nat → Nat) => (wX9 G h0 u.1 wk f0 A0 ++ (wX7 G (u.1 0) u.2.1 r.2.1 A1 ++ (wX2 G (u.1 11) u.2.2.1 r.2.2.2.1 r.2.2.1 ++ (wX2 G (u.1 12) u.2.2.2 r.2.2.2.2.2 r.2.2.2.2.1))))) := by
  intro res h
  refine ctrIE_of (cc := cX9_law) (maxL := 3) (ret := (some .int)) (by decide +kernel) rfl (Nat.le_of_ble_eq_true rfl) (fun p e s m below meth c DA C0 hP hD ls hl => ?_)
  have hPD : WD G DA (wX9 G h0 a0 wk f0 A0 ++ (wX7 G (a0 0) a1 f1 A1 ++ (wX2 G (a0 11) a2 f2 A2 ++ (wX2 G (a0 12) a3 f3 A3)))) s.heap := ⟨hP, hD⟩
  have hS : va_S DA s.heap s.heap [] := va_S.rf
  have hl : lv_has ls 3 [(0, .ref h0), (1, .int p1)] := hl
  obtain ⟨hx, hb, hml, hown, hts⟩ := C0.1
  have hK := C0.2.2.2.1
  unfold f9_law at h
  refine lv_iload_n hx hb dX9_law_0 rfl (lv_at hl 1 rfl) ?_
  refine lv_iconst (v := 1) hx hb dX9_law_1 (by decide) ?_
  refine lv_sipush (v := 240) hx hb dX9_law_2 (by decide) ?_
  refine kSI (As := [.int p1, .int 1, .int 240]) (rest := []) C0 (kt_X9_within l G  p1 1 240) gi_S_X9_90_X9_within (n := 3) rfl (by decide +kernel) ⟨rfl, rfl, Nat.le_of_ble_eq_true rfl, Nat.le_of_ble_eq_true rfl⟩ hPD hS [] [0, 1, 2, 3, 4, 5, 6, 7, 8, 9, 10, 11, 12, 13, 14, 15, 16, 17, 18, 19] [0, 1, 2, 3, 4, 5, 6, 7, 8, 9, 10, 11, 12, 13, 14, 15, 16, 17, 18, 19] (wN := (wX9 G h0 a0 wk f0 A0 ++ (wX7 G (a0 0) a1 f1 A1 ++ (wX2 G (a0 11) a2 f2 A2 ++ (wX2 G (a0 12) a3 f3 A3))))) rfl rfl rfl rfl rfl hl.1 (Nat.le_of_ble_eq_true rfl) dX9_law_5 (fun H locs hPD hS => ?_)
  refine lv_if_eq (tgt := 22) hx hb dX9_law_8 (by decide) (fun cc1 => ?_) (fun cc1 => ?_)
  · have h := (if_pos cc1).symm.trans h
    refine lv_iconst (v := (-1)) hx hb dX9_law_22 (by decide) ?_
    obtain rfl := Option.some.inj h
    exact eIE ((a0), a1, a2, a3) C0 hPD [0, 1, 2, 3, 4, 5, 6, 7, 8, 9, 10, 11, 12, 13, 14, 15, 16, 17, 18, 19] rfl rfl hS rfl dX9_law_23
  · have h := (if_neg cc1).symm.trans h
    refine lv_aload_n hx hb dX9_law_11 rfl (lv_at hl 0 rfl) ?_
    refine va_get (D := G.1) (ci := 9) (v := .ref (a0 0)) (C := RX9) (T := TX9) (N := 15) hx hb hts inlX9 hown hK hPD.1 0 rfl rfl 0 (by decide) (hts _ gw_366) (fun _ h9 => h9) rfl dX9_law_12 ?_
    refine lv_iload_n hx hb dX9_law_15 rfl (lv_at hl 1 rfl) ?_
    refine kVI (As := [.int p1]) (rest := []) C0 (kt_X7_holds l G (a0 0) a1 f1 A1 p1) gi_V_X9_132_X7_holds (n := 1) rfl (by decide +kernel) rfl ⟨rfl, rfl, Nat.le_of_ble_eq_true rfl, Nat.le_of_ble_eq_true rfl⟩ hPD hS 2 7 rfl rfl rfl [2, 3] [0, 1, 4, 5, 6, 7, 8, 9, 10, 11, 12, 13, 14, 15, 16, 17, 18, 19] [0, 1, 18, 19, 2, 3, 4, 5, 6, 7, 8, 9, 10, 11, 12, 13, 14, 15, 16, 17] (wN := (wX9 G h0 a0 wk f0 A0 ++ (wX7 G (a0 0) a1 f1 A1 ++ (wX2 G (a0 11) a2 f2 A2 ++ (wX2 G (a0 12) a3 f3 A3))))) rfl rfl rfl rfl rfl hl.1 (Nat.le_of_ble_eq_true rfl) dX9_law_16 (fun H locs hPD hS => ?_)
    refine lv_if_ne (tgt := 24) hx hb dX9_law_19 (by decide) (fun cc1 => ?_) (fun cc1 => ?_)
    · have h := (if_neg cc1).symm.trans h
      refine lv_aload_n hx hb dX9_law_24 rfl (lv_at hl 0 rfl) ?_
      refine va_get (D := G.1) (ci := 9) (v := .ref (a0 0)) (C := RX9) (T := TX9) (N := 15) hx hb hts inlX9 hown hK hPD.1 0 rfl rfl 0 (by decide) (hts _ gw_366) (fun _ h9 => h9) rfl dX9_law_25 ?_
      refine lv_iload_n hx hb dX9_law_28 rfl (lv_at hl 1 rfl) ?_
      refine kVV (As := [.int p1]) (rest := []) C0 (kt_X7_open l G (a0 0) a1 f1 A1 p1) gi_V_X9_135_X7_open (n := 1) rfl (by decide +kernel) rfl ⟨rfl, rfl, Nat.le_of_ble_eq_true rfl, Nat.le_of_ble_eq_true rfl⟩ hPD hS 2 7 rfl rfl rfl [2, 3] [0, 1, 4, 5, 6, 7, 8, 9, 10, 11, 12, 13, 14, 15, 16, 17, 18, 19] [0, 1, 18, 19, 2, 3, 4, 5, 6, 7, 8, 9, 10, 11, 12, 13, 14, 15, 16, 17] (wN := (wX9 G h0 a0 wk f0 A0 ++ (wX7 G (a0 0) a1 (f7_open f1 A1 p1) A1 ++ (wX2 G (a0 11) a2 f2 A2 ++ (wX2 G (a0 12) a3 f3 A3))))) rfl rfl rfl rfl rfl hl.1 (Nat.le_of_ble_eq_true rfl) dX9_law_29 (fun H locs hPD hS => ?_)
      refine lv_aload_n hx hb dX9_law_32 rfl (lv_at hl 0 rfl) ?_
      refine va_get (D := G.1) (ci := 9) (v := .ref (a0 12)) (C := RX9) (T := TX9) (N := 15) hx hb hts inlX9 hown hK hPD.1 0 rfl rfl 12 (by decide) (hts _ gw_380) (fun _ h9 => h9) rfl dX9_law_33 ?_
      refine lv_aload_n hx hb dX9_law_36 rfl (lv_at hl 0 rfl) ?_
      refine va_get (D := G.1) (ci := 9) (v := .ref (a0 0)) (C := RX9) (T := TX9) (N := 15) hx hb hts inlX9 hown hK hPD.1 0 rfl rfl 0 (by decide) (hts _ gw_366) (fun _ h9 => h9) rfl dX9_law_37 ?_
      obtain ⟨q_1, hq_1, h⟩ := ob2 h
      refine kVV (As := [.ref (a0 0)]) (rest := []) C0 (kt_X2_read l G (a0 12) a3 (a0 0) a1 f3 A3 (f7_open f1 A1 p1) A1 hq_1) gi_V_X9_138_X2_read (n := 1) rfl (by decide +kernel) rfl ⟨rfl, rfl, Nat.le_of_ble_eq_true rfl, Nat.le_of_ble_eq_true rfl⟩ hPD hS 12 2 rfl rfl rfl [12, 13, 14, 15, 16, 17, 18, 19, 2, 3] [0, 1, 4, 5, 6, 7, 8, 9, 10, 11] [0, 1, 18, 19, 2, 3, 4, 5, 6, 7, 8, 9, 10, 11, 12, 13, 14, 15, 16, 17] (wN := (wX9 G h0 a0 wk f0 A0 ++ (wX7 G (a0 0) a1 q_1.2.2 A1 ++ (wX2 G (a0 11) a2 f2 A2 ++ (wX2 G (a0 12) a3 q_1.2.1 q_1.1))))) rfl rfl rfl rfl rfl hl.1 (Nat.le_of_ble_eq_true rfl) dX9_law_40 (fun H locs hPD hS => ?_)
      refine lv_aload_n hx hb dX9_law_43 rfl (lv_at hl 0 rfl) ?_
      refine va_get (D := G.1) (ci := 9) (v := .ref (a0 0)) (C := RX9) (T := TX9) (N := 15) hx hb hts inlX9 hown hK hPD.1 0 rfl rfl 0 (by decide) (hts _ gw_366) (fun _ h9 => h9) rfl dX9_law_44 ?_
      refine kVI (As := []) (rest := []) C0 (kt_X7_isFine l G (a0 0) a1 q_1.2.2 A1) gi_V_X9_142_X7_isFine (n := 0) rfl (by decide +kernel) rfl ⟨rfl, rfl, Nat.le_of_ble_eq_true rfl, Nat.le_of_ble_eq_true rfl⟩ hPD hS 2 7 rfl rfl rfl [2, 3] [0, 1, 4, 5, 6, 7, 8, 9, 10, 11, 12, 13, 14, 15, 16, 17, 18, 19] [0, 1, 18, 19, 2, 3, 4, 5, 6, 7, 8, 9, 10, 11, 12, 13, 14, 15, 16, 17] (wN := (wX9 G h0 a0 wk f0 A0 ++ (wX7 G (a0 0) a1 q_1.2.2 A1 ++ (wX2 G (a0 11) a2 f2 A2 ++ (wX2 G (a0 12) a3 q_1.2.1 q_1.1))))) rfl rfl rfl rfl rfl hl.1 (Nat.le_of_ble_eq_true rfl) dX9_law_47 (fun H locs hPD hS => ?_)
      refine lv_if_eq (tgt := 71) hx hb dX9_law_50 (by decide) (fun cc1 => ?_) (fun cc1 => ?_)
      · have h := (if_pos cc1).symm.trans h
        refine lv_aload_n hx hb dX9_law_71 rfl (lv_at hl 0 rfl) ?_
        refine va_get (D := G.1) (ci := 9) (v := .ref (a0 0)) (C := RX9) (T := TX9) (N := 15) hx hb hts inlX9 hown hK hPD.1 0 rfl rfl 0 (by decide) (hts _ gw_366) (fun _ h9 => h9) rfl dX9_law_72 ?_
        refine lv_aload_n hx hb dX9_law_75 rfl (lv_at hl 0 rfl) ?_
        refine va_get (D := G.1) (ci := 9) (v := .ref (a0 11)) (C := RX9) (T := TX9) (N := 15) hx hb hts inlX9 hown hK hPD.1 0 rfl rfl 11 (by decide) (hts _ gw_386) (fun _ h9 => h9) rfl dX9_law_76 ?_
        refine va_get (D := G.1) (ci := 2) (v := .int (f2 9)) (C := RX2) (T := TX2) (N := 10) hx hb hts inlX2 hown hK hPD.1 4 rfl rfl 9 (by decide) (hts _ gw_387) (fun _ h9 => h9) rfl dX9_law_79 ?_
        refine kVI (As := [.int (f2 9)]) (rest := []) C0 (kt_X7_answer l G (a0 0) a1 q_1.2.2 A1 (f2 9)) gi_V_X9_149_X7_answer (n := 1) rfl (by decide +kernel) rfl ⟨rfl, rfl, Nat.le_of_ble_eq_true rfl, Nat.le_of_ble_eq_true rfl⟩ hPD hS 2 7 rfl rfl rfl [2, 3] [0, 1, 4, 5, 6, 7, 8, 9, 10, 11, 12, 13, 14, 15, 16, 17, 18, 19] [0, 1, 18, 19, 2, 3, 4, 5, 6, 7, 8, 9, 10, 11, 12, 13, 14, 15, 16, 17] (wN := (wX9 G h0 a0 wk f0 A0 ++ (wX7 G (a0 0) a1 q_1.2.2 A1 ++ (wX2 G (a0 11) a2 f2 A2 ++ (wX2 G (a0 12) a3 q_1.2.1 q_1.1))))) rfl rfl rfl rfl rfl hl.1 (Nat.le_of_ble_eq_true rfl) dX9_law_82 (fun H locs hPD hS => ?_)
        obtain rfl := Option.some.inj h
        exact eIE ((a0), a1, a2, a3) C0 hPD [0, 1, 2, 3, 4, 5, 6, 7, 8, 9, 10, 11, 12, 13, 14, 15, 16, 17, 18, 19] rfl rfl hS rfl dX9_law_85
      · have h := (if_neg cc1).symm.trans h
        refine lv_aload_n hx hb dX9_law_53 rfl (lv_at hl 0 rfl) ?_
        refine va_get (D := G.1) (ci := 9) (v := .ref (a0 11)) (C := RX9) (T := TX9) (N := 15) hx hb hts inlX9 hown hK hPD.1 0 rfl rfl 11 (by decide) (hts _ gw_386) (fun _ h9 => h9) rfl dX9_law_54 ?_
        refine lv_astore_n (lv' := [(2, .ref (a0 11)), (0, .ref h0), (1, .int p1)]) hx hb dX9_law_57 rfl hl (by decide) rfl (fun ls hl => ?_)
        refine lv_aload_n hx hb dX9_law_58 rfl (lv_at hl 1 rfl) ?_
        refine lv_aload_n hx hb dX9_law_59 rfl (lv_at hl 1 rfl) ?_
        refine va_get (D := G.1) (ci := 9) (v := .ref (a0 12)) (C := RX9) (T := TX9) (N := 15) hx hb hts inlX9 hown hK hPD.1 0 rfl rfl 12 (by decide) (hts _ gw_380) (fun _ h9 => h9) rfl dX9_law_60 ?_
        refine va_put (D := G.1) (ci := 9) (v := .ref (a0 12)) (ty := .object "IdleCrimes$Law") (C := RX9) (T := TX9) (N := 15) hx hb hts inlX9 tyX9 tyX9_ok nmX9 hown hK hPD.1 hPD.2 hS 0 rfl rfl 11 (by decide) (hts _ gw_386) (fun _ h9 => h9) rfl (by decide +kernel) rfl rfl (Nat.le_of_ble_eq_true rfl) dX9_law_63 (fun H locs hP hD hS => ?_)
        have hPD : WD G DA (wX9 G h0 (va_up a0 11 (a0 12)) wk f0 A0 ++ (wX7 G (a0 0) a1 q_1.2.2 A1 ++ (wX2 G (a0 11) a2 f2 A2 ++ (wX2 G (a0 12) a3 q_1.2.1 q_1.1)))) H := ⟨hP, hD⟩
        clear hP hD
        refine lv_aload_n hx hb dX9_law_66 rfl (lv_at hl 1 rfl) ?_
        refine lv_aload_n hx hb dX9_law_67 rfl (lv_at hl 0 rfl) ?_
        refine va_put (D := G.1) (ci := 9) (v := .ref (a0 11)) (ty := .object "IdleCrimes$Law") (C := RX9) (T := TX9) (N := 15) hx hb hts inlX9 tyX9 tyX9_ok nmX9 hown hK hPD.1 hPD.2 hS 0 rfl rfl 12 (by decide) (hts _ gw_380) (fun _ h9 => h9) rfl (by decide +kernel) rfl rfl (Nat.le_of_ble_eq_true rfl) dX9_law_68 (fun H locs hP hD hS => ?_)
        have hPD : WD G DA (wX9 G h0 (va_up (va_up a0 11 (a0 12)) 12 (a0 11)) wk f0 A0 ++ (wX7 G (a0 0) a1 q_1.2.2 A1 ++ (wX2 G (a0 11) a2 f2 A2 ++ (wX2 G (a0 12) a3 q_1.2.1 q_1.1)))) H := ⟨hP, hD⟩
        clear hP hD
        refine lv_aload_n hx hb dX9_law_71 rfl (lv_at hl 1 rfl) ?_
        refine va_get (D := G.1) (ci := 9) (v := .ref (a0 0)) (C := RX9) (T := TX9) (N := 15) hx hb hts inlX9 hown hK hPD.1 0 rfl rfl 0 (by decide) (hts _ gw_366) (fun _ h9 => h9) rfl dX9_law_72 ?_
        refine lv_aload_n hx hb dX9_law_75 rfl (lv_at hl 1 rfl) ?_
        refine va_get (D := G.1) (ci := 9) (v := .ref (a0 12)) (C := RX9) (T := TX9) (N := 15) hx hb hts inlX9 hown hK hPD.1 0 rfl rfl 11 (by decide) (hts _ gw_386) (fun _ h9 => h9) rfl dX9_law_76 ?_
        refine va_get (D := G.1) (ci := 2) (v := .int (q_1.2.1 9)) (C := RX2) (T := TX2) (N := 10) hx hb hts inlX2 hown hK hPD.1 12 rfl rfl 9 (by decide) (hts _ gw_387) (fun _ h9 => h9) rfl dX9_law_79 ?_
        refine kVI (As := [.int (q_1.2.1 9)]) (rest := []) C0 (kt_X7_answer l G (a0 0) a1 q_1.2.2 A1 (q_1.2.1 9)) gi_V_X9_149_X7_answer (n := 1) rfl (by decide +kernel) rfl ⟨rfl, rfl, Nat.le_of_ble_eq_true rfl, Nat.le_of_ble_eq_true rfl⟩ hPD hS 2 7 rfl rfl rfl [2, 3] [0, 1, 4, 5, 6, 7, 8, 9, 10, 11, 12, 13, 14, 15, 16, 17, 18, 19] [0, 1, 18, 19, 2, 3, 4, 5, 6, 7, 8, 9, 10, 11, 12, 13, 14, 15, 16, 17] (wN := (wX9 G h0 (va_up (va_up a0 11 (a0 12)) 12 (a0 11)) wk f0 A0 ++ (wX7 G (a0 0) a1 q_1.2.2 A1 ++ (wX2 G (a0 11) a2 f2 A2 ++ (wX2 G (a0 12) a3 q_1.2.1 q_1.1))))) rfl rfl rfl rfl rfl hl.1 (Nat.le_of_ble_eq_true rfl) dX9_law_82 (fun H locs hPD hS => ?_)
        obtain rfl := Option.some.inj h
        exact eIE ((va_up (va_up a0 11 (a0 12)) 12 (a0 11)), a1, a3, a2) C0 hPD [0, 1, 2, 3, 12, 13, 14, 15, 16, 17, 18, 19, 4, 5, 6, 7, 8, 9, 10, 11] rfl rfl hS rfl dX9_law_85
    · have h := (if_pos cc1).symm.trans h
      refine lv_iconst (v := (-1)) hx hb dX9_law_22 (by decide) ?_
      obtain rfl := Option.some.inj h
      exact eIE ((a0), a1, a2, a3) C0 hPD [0, 1, 2, 3, 4, 5, 6, 7, 8, 9, 10, 11, 12, 13, 14, 15, 16, 17, 18, 19] rfl rfl hS rfl dX9_law_23
end WALK
