section WALK
variable {p : Program} {l : Launch} {e : Env} {s : State} {m : MethodId} {args : Array Value} {below : List Frame} {meth : Method} {c : Code} {G : Gp} {DA : Nat → Prop}
abbrev rmX9_placeIs : Room := { frames := 4, cells := 0, slots := 0, locals := 87 }
set_option maxRecDepth 100000 in
set_option maxHeartbeats 4000000 in
theorem kt_X9_placeIs (l : Launch) (G : Gp) (h0 : Nat) (a0 : Nat → Nat) (wk : Option Nat) (a1 : Nat → Nat) (a2 : Nat → Nat) (f0 : Nat → Int32) (A0 : Nat → Nat → Int32) (f1 : Nat → Int32) (A1 : Nat → Nat → Int32) (f2 : Nat → Int32) (A2 : Nat → Nat → Int32) (p1 : Int32) (p2 : Int32) : ∀ {r : Int32}, f9_placeIs f0 A0 f1 A1 f2 A2 p1 p2 = some r → CtrI l yX9_placeIs cX9_placeIs 3 (some .int) rmX9_placeIs G [.ref h0, .int p1, .int p2] (wX9 G h0 a0 wk f0 A0 ++ (wX1 G (a0 1) a1 f1 A1 ++ (wX6 G (a0 2) a2 f2 A2))) r (wX9 G h0 a0 wk f0 A0 ++ (wX1 G (a0 1) a1 f1 A1 ++ (wX6 G (a0 2) a2 f2 A2))) := by
  intro res h
  refine ctrI_of (cc := cX9_placeIs) (maxL := 3) (ret := (some .int)) (by decide +kernel) rfl (Nat.le_of_ble_eq_true rfl) (fun p e s m below meth c DA C0 hP hD ls hl => ?_)
  have hPD : WD G DA (wX9 G h0 a0 wk f0 A0 ++ (wX1 G (a0 1) a1 f1 A1 ++ (wX6 G (a0 2) a2 f2 A2))) s.heap := ⟨hP, hD⟩
  have hS : va_S DA s.heap s.heap [] := va_S.rf
  have hl : lv_has ls 3 [(0, .ref h0), (1, .int p1), (2, .int p2)] := hl
  obtain ⟨hx, hb, hml, hown, hts⟩ := C0.1
  have hK := C0.2.2.2.1
  unfold f9_placeIs at h
  refine lv_aload_n hx hb dX9_placeIs_0 rfl (lv_at hl 0 rfl) ?_
  refine va_get (D := G.1) (ci := 9) (v := .ref (a0 1)) (C := RX9) (T := TX9) (N := 15) hx hb hts inlX9 hown hK hPD.1 0 rfl rfl 1 (by decide) (hts _ gw_351) (fun _ h9 => h9) rfl dX9_placeIs_1 ?_
  refine lv_iload_n hx hb dX9_placeIs_4 rfl (lv_at hl 1 rfl) ?_
  refine kVI (As := [.int p1]) (rest := []) C0 (kt_X1_isTold l G (a0 1) a1 f1 A1 p1) gi_V_X9_108_X1_isTold (n := 1) rfl (by decide +kernel) rfl ⟨rfl, rfl, Nat.le_of_ble_eq_true rfl, Nat.le_of_ble_eq_true rfl⟩ hPD hS 2 1 rfl rfl rfl [2, 3, 4, 5] [0, 1, 6, 7, 8, 9, 10, 11] [0, 1, 8, 9, 10, 11, 2, 3, 4, 5, 6, 7] (wr := (wX9 G h0 a0 wk f0 A0 ++ (wX6 G (a0 2) a2 f2 A2))) (wN := (wX9 G h0 a0 wk f0 A0 ++ (wX1 G (a0 1) a1 f1 A1 ++ (wX6 G (a0 2) a2 f2 A2)))) rfl rfl rfl rfl rfl hl.1 (Nat.le_of_ble_eq_true rfl) dX9_placeIs_5 (fun H locs hPD hS => ?_)
  refine lv_if_ne (tgt := 13) hx hb dX9_placeIs_8 (by decide) (fun cc1 => ?_) (fun cc1 => ?_)
  · have h := (if_neg cc1).symm.trans h
    refine lv_iload_n hx hb dX9_placeIs_13 rfl (lv_at hl 2 rfl) ?_
    by_cases cc0 : p2 = 0
    · have h := (if_pos cc0).symm.trans h
      refine lv_swT (tgt := 48) (k := 0) hx hb dX9_placeIs_14 cc0 (by decide) (by decide) ?_
      refine lv_aload_n hx hb dX9_placeIs_48 rfl (lv_at hl 0 rfl) ?_
      refine va_get (D := G.1) (ci := 9) (v := .ref (a0 2)) (C := RX9) (T := TX9) (N := 15) hx hb hts inlX9 hown hK hPD.1 0 rfl rfl 2 (by decide) (hts _ gw_353) (fun _ h9 => h9) rfl dX9_placeIs_49 ?_
      refine va_get (D := G.1) (ci := 6) (v := .ref (a2 0)) (C := RX6) (T := TX6) (N := 10) hx hb hts inlX6 hown hK hPD.1 6 rfl rfl 0 (by decide) (hts _ gw_354) (fun _ h9 => h9) rfl dX9_placeIs_52 ?_
      refine lv_iload_n hx hb dX9_placeIs_55 rfl (lv_at hl 1 rfl) ?_
      refine kSI (As := [.ref (a2 0), .int p1]) (rest := []) C0 (kt_X9_at l G (a2 0) 16 (A2 0) p1 (by decide)) gi_S_X9_188_X9_at (n := 2) rfl (by decide +kernel) ⟨rfl, rfl, Nat.le_of_ble_eq_true rfl, Nat.le_of_ble_eq_true rfl⟩ hPD hS [7] [0, 1, 2, 3, 4, 5, 6, 8, 9, 10, 11] [0, 1, 2, 3, 4, 5, 6, 11, 7, 8, 9, 10] (wr := pick (wX9 G h0 a0 wk f0 A0 ++ (wX1 G (a0 1) a1 f1 A1 ++ (wX6 G (a0 2) a2 f2 A2))) [0, 1, 2, 3, 4, 5, 6, 8, 9, 10, 11]) (wN := (wX9 G h0 a0 wk f0 A0 ++ (wX1 G (a0 1) a1 f1 A1 ++ (wX6 G (a0 2) a2 f2 A2)))) rfl rfl rfl rfl rfl hl.1 (Nat.le_of_ble_eq_true rfl) dX9_placeIs_56 (fun H locs hPD hS => ?_)
      obtain rfl := Option.some.inj h
      exact eI C0 hPD.1 hPD.2 hS rfl dX9_placeIs_59
    have h := (if_neg cc0).symm.trans h
    by_cases cc1 : p2 = 1
    · have h := (if_pos cc1).symm.trans h
      refine lv_swT (tgt := 60) (k := 1) hx hb dX9_placeIs_14 cc1 (by decide) (by decide) ?_
      refine lv_aload_n hx hb dX9_placeIs_60 rfl (lv_at hl 0 rfl) ?_
      refine va_get (D := G.1) (ci := 9) (v := .ref (a0 2)) (C := RX9) (T := TX9) (N := 15) hx hb hts inlX9 hown hK hPD.1 0 rfl rfl 2 (by decide) (hts _ gw_353) (fun _ h9 => h9) rfl dX9_placeIs_61 ?_
      refine va_get (D := G.1) (ci := 6) (v := .ref (a2 1)) (C := RX6) (T := TX6) (N := 10) hx hb hts inlX6 hown hK hPD.1 6 rfl rfl 1 (by decide) (hts _ gw_356) (fun _ h9 => h9) rfl dX9_placeIs_64 ?_
      refine lv_iload_n hx hb dX9_placeIs_67 rfl (lv_at hl 1 rfl) ?_
      refine kSI (As := [.ref (a2 1), .int p1]) (rest := []) C0 (kt_X9_at l G (a2 1) 16 (A2 1) p1 (by decide)) gi_S_X9_188_X9_at (n := 2) rfl (by decide +kernel) ⟨rfl, rfl, Nat.le_of_ble_eq_true rfl, Nat.le_of_ble_eq_true rfl⟩ hPD hS [8] [0, 1, 2, 3, 4, 5, 6, 7, 9, 10, 11] [0, 1, 2, 3, 4, 5, 6, 7, 11, 8, 9, 10] (wr := pick (wX9 G h0 a0 wk f0 A0 ++ (wX1 G (a0 1) a1 f1 A1 ++ (wX6 G (a0 2) a2 f2 A2))) [0, 1, 2, 3, 4, 5, 6, 7, 9, 10, 11]) (wN := (wX9 G h0 a0 wk f0 A0 ++ (wX1 G (a0 1) a1 f1 A1 ++ (wX6 G (a0 2) a2 f2 A2)))) rfl rfl rfl rfl rfl hl.1 (Nat.le_of_ble_eq_true rfl) dX9_placeIs_68 (fun H locs hPD hS => ?_)
      obtain rfl := Option.some.inj h
      exact eI C0 hPD.1 hPD.2 hS rfl dX9_placeIs_71
    have h := (if_neg cc1).symm.trans h
    by_cases cc2 : p2 = 2
    · have h := (if_pos cc2).symm.trans h
      refine lv_swT (tgt := 72) (k := 2) hx hb dX9_placeIs_14 cc2 (by decide) (by decide) ?_
      refine lv_aload_n hx hb dX9_placeIs_72 rfl (lv_at hl 0 rfl) ?_
      refine va_get (D := G.1) (ci := 9) (v := .ref (a0 2)) (C := RX9) (T := TX9) (N := 15) hx hb hts inlX9 hown hK hPD.1 0 rfl rfl 2 (by decide) (hts _ gw_353) (fun _ h9 => h9) rfl dX9_placeIs_73 ?_
      refine va_get (D := G.1) (ci := 6) (v := .ref (a2 2)) (C := RX6) (T := TX6) (N := 10) hx hb hts inlX6 hown hK hPD.1 6 rfl rfl 2 (by decide) (hts _ gw_429) (fun _ h9 => h9) rfl dX9_placeIs_76 ?_
      refine lv_iload_n hx hb dX9_placeIs_79 rfl (lv_at hl 1 rfl) ?_
      refine kSI (As := [.ref (a2 2), .int p1]) (rest := []) C0 (kt_X9_at l G (a2 2) 16 (A2 2) p1 (by decide)) gi_S_X9_188_X9_at (n := 2) rfl (by decide +kernel) ⟨rfl, rfl, Nat.le_of_ble_eq_true rfl, Nat.le_of_ble_eq_true rfl⟩ hPD hS [9] [0, 1, 2, 3, 4, 5, 6, 7, 8, 10, 11] [0, 1, 2, 3, 4, 5, 6, 7, 8, 11, 9, 10] (wr := pick (wX9 G h0 a0 wk f0 A0 ++ (wX1 G (a0 1) a1 f1 A1 ++ (wX6 G (a0 2) a2 f2 A2))) [0, 1, 2, 3, 4, 5, 6, 7, 8, 10, 11]) (wN := (wX9 G h0 a0 wk f0 A0 ++ (wX1 G (a0 1) a1 f1 A1 ++ (wX6 G (a0 2) a2 f2 A2)))) rfl rfl rfl rfl rfl hl.1 (Nat.le_of_ble_eq_true rfl) dX9_placeIs_80 (fun H locs hPD hS => ?_)
      obtain rfl := Option.some.inj h
      exact eI C0 hPD.1 hPD.2 hS rfl dX9_placeIs_83
    have h := (if_neg cc2).symm.trans h
    by_cases cc3 : p2 = 3
    · have h := (if_pos cc3).symm.trans h
      refine lv_swT (tgt := 84) (k := 3) hx hb dX9_placeIs_14 cc3 (by decide) (by decide) ?_
      refine lv_aload_n hx hb dX9_placeIs_84 rfl (lv_at hl 0 rfl) ?_
      refine va_get (D := G.1) (ci := 9) (v := .ref (a0 2)) (C := RX9) (T := TX9) (N := 15) hx hb hts inlX9 hown hK hPD.1 0 rfl rfl 2 (by decide) (hts _ gw_353) (fun _ h9 => h9) rfl dX9_placeIs_85 ?_
      refine lv_iload_n hx hb dX9_placeIs_88 rfl (lv_at hl 1 rfl) ?_
      obtain ⟨q_1, hq_1, h⟩ := ob2 h
      refine kVI (As := [.int p1]) (rest := []) C0 (kt_X6_standAt l G (a0 2) a2 f2 A2 p1 hq_1) gi_V_X9_196_X6_standAt (n := 1) rfl (by decide +kernel) rfl ⟨rfl, rfl, Nat.le_of_ble_eq_true rfl, Nat.le_of_ble_eq_true rfl⟩ hPD hS 6 6 rfl rfl rfl [6, 7, 8, 9, 10, 11] [0, 1, 2, 3, 4, 5] [0, 1, 2, 3, 4, 5, 6, 7, 8, 9, 10, 11] (wr := (wX9 G h0 a0 wk f0 A0 ++ (wX1 G (a0 1) a1 f1 A1))) (wN := (wX9 G h0 a0 wk f0 A0 ++ (wX1 G (a0 1) a1 f1 A1 ++ (wX6 G (a0 2) a2 f2 A2)))) rfl rfl rfl rfl rfl hl.1 (Nat.le_of_ble_eq_true rfl) dX9_placeIs_89 (fun H locs hPD hS => ?_)
      obtain rfl := Option.some.inj h
      exact eI C0 hPD.1 hPD.2 hS rfl dX9_placeIs_92
    have h := (if_neg cc3).symm.trans h
    by_cases cc4 : p2 = 4
    · have h := (if_pos cc4).symm.trans h
      refine lv_swT (tgt := 93) (k := 4) hx hb dX9_placeIs_14 cc4 (by decide) (by decide) ?_
      refine lv_aload_n hx hb dX9_placeIs_93 rfl (lv_at hl 0 rfl) ?_
      refine va_get (D := G.1) (ci := 9) (v := .ref (a0 1)) (C := RX9) (T := TX9) (N := 15) hx hb hts inlX9 hown hK hPD.1 0 rfl rfl 1 (by decide) (hts _ gw_351) (fun _ h9 => h9) rfl dX9_placeIs_94 ?_
      refine va_get (D := G.1) (ci := 1) (v := .ref (a1 1)) (C := RX1) (T := TX1) (N := 4) hx hb hts inlX1 hown hK hPD.1 2 rfl rfl 1 (by decide) (hts _ gw_441) (fun _ h9 => h9) rfl dX9_placeIs_97 ?_
      refine lv_iload_n hx hb dX9_placeIs_100 rfl (lv_at hl 1 rfl) ?_
      refine kSI (As := [.ref (a1 1), .int p1]) (rest := []) C0 (kt_X9_at l G (a1 1) 16 (A1 1) p1 (by decide)) gi_S_X9_188_X9_at (n := 2) rfl (by decide +kernel) ⟨rfl, rfl, Nat.le_of_ble_eq_true rfl, Nat.le_of_ble_eq_true rfl⟩ hPD hS [3] [0, 1, 2, 4, 5, 6, 7, 8, 9, 10, 11] [0, 1, 2, 11, 3, 4, 5, 6, 7, 8, 9, 10] (wr := pick (wX9 G h0 a0 wk f0 A0 ++ (wX1 G (a0 1) a1 f1 A1 ++ (wX6 G (a0 2) a2 f2 A2))) [0, 1, 2, 4, 5, 6, 7, 8, 9, 10, 11]) (wN := (wX9 G h0 a0 wk f0 A0 ++ (wX1 G (a0 1) a1 f1 A1 ++ (wX6 G (a0 2) a2 f2 A2)))) rfl rfl rfl rfl rfl hl.1 (Nat.le_of_ble_eq_true rfl) dX9_placeIs_101 (fun H locs hPD hS => ?_)
      obtain rfl := Option.some.inj h
      exact eI C0 hPD.1 hPD.2 hS rfl dX9_placeIs_104
    have h := (if_neg cc4).symm.trans h
    refine lv_swTD (tgt := 105) (ks := [0, 1, 2, 3, 4]) hx hb dX9_placeIs_14 (by decide) (by decide) ⟨cc0, cc1, cc2, cc3, cc4, trivial⟩ (by decide) ?_
    refine lv_iconst (v := (-1)) hx hb dX9_placeIs_105 (by decide) ?_
    obtain rfl := Option.some.inj h
    exact eI C0 hPD.1 hPD.2 hS rfl dX9_placeIs_106
  · have h := (if_pos cc1).symm.trans h
    refine lv_iconst (v := (-1)) hx hb dX9_placeIs_11 (by decide) ?_
    obtain rfl := Option.some.inj h
    exact eI C0 hPD.1 hPD.2 hS rfl dX9_placeIs_12
abbrev rmX9_constableIs : Room := { frames := 3, cells := 0, slots := 0, locals := 64 }
set_option maxRecDepth 100000 in
set_option maxHeartbeats 4000000 in
theorem kt_X9_constableIs (l : Launch) (G : Gp) (h0 : Nat) (a0 : Nat → Nat) (wk : Option Nat) (a1 : Nat → Nat) (g2 : Nat → Nat) (aB2 : Nat → Nat → Nat) (f0 : Nat → Int32) (A0 : Nat → Nat → Int32) (f1 : Nat → Int32) (A1 : Nat → Nat → Int32) (fB2 : Nat → Nat → Int32) (AB2 : Nat → Nat → Nat → Int32) (p1 : Int32) (p2 : Int32) : ∀ {r : Int32}, f9_constableIs f0 A0 f1 A1 fB2 AB2 p1 p2 = some r → CtrI l yX9_constableIs cX9_constableIs 3 (some .int) rmX9_constableIs G [.ref h0, .int p1, .int p2] (wX9 G h0 a0 wk f0 A0 ++ (wX6 G (a0 2) a1 f1 A1 ++ (wB G (a0 5) g2 aB2 fB2 AB2))) r (wX9 G h0 a0 wk f0 A0 ++ (wX6 G (a0 2) a1 f1 A1 ++ (wB G (a0 5) g2 aB2 fB2 AB2))) := by
  intro res h
  refine ctrI_of (cc := cX9_constableIs) (maxL := 3) (ret := (some .int)) (by decide +kernel) rfl (Nat.le_of_ble_eq_true rfl) (fun p e s m below meth c DA C0 hP hD ls hl => ?_)
  have hPD : WD G DA (wX9 G h0 a0 wk f0 A0 ++ (wX6 G (a0 2) a1 f1 A1 ++ (wB G (a0 5) g2 aB2 fB2 AB2))) s.heap := ⟨hP, hD⟩
  have hS : va_S DA s.heap s.heap [] := va_S.rf
  have hl : lv_has ls 3 [(0, .ref h0), (1, .int p1), (2, .int p2)] := hl
  obtain ⟨hx, hb, hml, hown, hts⟩ := C0.1
  have hK := C0.2.2.2.1
  unfold f9_constableIs at h
  refine lv_aload_n hx hb dX9_constableIs_0 rfl (lv_at hl 0 rfl) ?_
  refine va_get (D := G.1) (ci := 9) (v := .ref (a0 2)) (C := RX9) (T := TX9) (N := 15) hx hb hts inlX9 hown hK hPD.1 0 rfl rfl 2 (by decide) (hts _ gw_353) (fun _ h9 => h9) rfl dX9_constableIs_1 ?_
  refine lv_iload_n hx hb dX9_constableIs_4 rfl (lv_at hl 1 rfl) ?_
  refine kVI (As := [.int p1]) (rest := []) C0 (kt_X6_isTold l G (a0 2) a1 f1 A1 p1) gi_V_X9_195_X6_isTold (n := 1) rfl (by decide +kernel) rfl ⟨rfl, rfl, Nat.le_of_ble_eq_true rfl, Nat.le_of_ble_eq_true rfl⟩ hPD hS 2 6 rfl rfl rfl [2, 3, 4, 5, 6, 7] [0, 1, 8, 9, 10, 11, 12, 13, 14, 15, 16, 17, 18, 19, 20, 21, 22, 23, 24] [0, 1, 19, 20, 21, 22, 23, 24, 2, 3, 4, 5, 6, 7, 8, 9, 10, 11, 12, 13, 14, 15, 16, 17, 18] (wr := (wX9 G h0 a0 wk f0 A0 ++ (wB G (a0 5) g2 aB2 fB2 AB2))) (wN := (wX9 G h0 a0 wk f0 A0 ++ (wX6 G (a0 2) a1 f1 A1 ++ (wB G (a0 5) g2 aB2 fB2 AB2)))) rfl rfl rfl rfl rfl hl.1 (Nat.le_of_ble_eq_true rfl) dX9_constableIs_5 (fun H locs hPD hS => ?_)
  refine lv_if_eq (tgt := 26) hx hb dX9_constableIs_8 (by decide) (fun cc1 => ?_) (fun cc1 => ?_)
  · have h := (if_pos cc1).symm.trans h
    refine lv_iconst (v := (-1)) hx hb dX9_constableIs_26 (by decide) ?_
    obtain rfl := Option.some.inj h
    exact eI C0 hPD.1 hPD.2 hS rfl dX9_constableIs_27
  · have h := (if_neg cc1).symm.trans h
    refine lv_iload_n hx hb dX9_constableIs_11 rfl (lv_at hl 1 rfl) ?_
    refine lv_iconst (v := 0) hx hb dX9_constableIs_12 (by decide) ?_
    refine lv_aload_n hx hb dX9_constableIs_13 rfl (lv_at hl 0 rfl) ?_
    refine va_get (D := G.1) (ci := 9) (v := .ref (a0 5)) (C := RX9) (T := TX9) (N := 15) hx hb hts inlX9 hown hK hPD.1 0 rfl rfl 5 (by decide) (hts _ gw_389) (fun _ h9 => h9) rfl dX9_constableIs_14 ?_
    refine va_alen (v := 8) hx hb hK hPD.1 8 2 rfl rfl rfl dX9_constableIs_17 ?_
    refine lv_iconst (v := 1) hx hb dX9_constableIs_18 (by decide) ?_
    refine lv_isub hx hb dX9_constableIs_19 ?_
    refine kSI (As := [.int p1, .int 0, .int (8 - 1)]) (rest := []) C0 (kt_X9_within l G  p1 0 (8 - 1)) gi_S_X9_90_X9_within (n := 3) rfl (by decide +kernel) ⟨rfl, rfl, Nat.le_of_ble_eq_true rfl, Nat.le_of_ble_eq_true rfl⟩ hPD hS [] [0, 1, 2, 3, 4, 5, 6, 7, 8, 9, 10, 11, 12, 13, 14, 15, 16, 17, 18, 19, 20, 21, 22, 23, 24] [0, 1, 2, 3, 4, 5, 6, 7, 8, 9, 10, 11, 12, 13, 14, 15, 16, 17, 18, 19, 20, 21, 22, 23, 24] (wr := (wX9 G h0 a0 wk f0 A0 ++ (wX6 G (a0 2) a1 f1 A1 ++ (wB G (a0 5) g2 aB2 fB2 AB2)))) (wN := (wX9 G h0 a0 wk f0 A0 ++ (wX6 G (a0 2) a1 f1 A1 ++ (wB G (a0 5) g2 aB2 fB2 AB2)))) rfl rfl rfl rfl rfl hl.1 (Nat.le_of_ble_eq_true rfl) dX9_constableIs_20 (fun H locs hPD hS => ?_)
    refine lv_if_ne (tgt := 28) hx hb dX9_constableIs_23 (by decide) (fun cc1 => ?_) (fun cc1 => ?_)
    · have h := (if_neg cc1).symm.trans h
      refine lv_iload_n hx hb dX9_constableIs_28 rfl (lv_at hl 2 rfl) ?_
      by_cases cc0 : p2 = 0
      · have h := (if_pos cc0).symm.trans h
        refine lv_swT (tgt := 56) (k := 0) hx hb dX9_constableIs_29 cc0 (by decide) (by decide) ?_
        refine lv_aload_n hx hb dX9_constableIs_56 rfl (lv_at hl 0 rfl) ?_
        refine va_get (D := G.1) (ci := 9) (v := .ref (a0 2)) (C := RX9) (T := TX9) (N := 15) hx hb hts inlX9 hown hK hPD.1 0 rfl rfl 2 (by decide) (hts _ gw_353) (fun _ h9 => h9) rfl dX9_constableIs_57 ?_
        refine va_get (D := G.1) (ci := 6) (v := .ref (a1 3)) (C := RX6) (T := TX6) (N := 10) hx hb hts inlX6 hown hK hPD.1 2 rfl rfl 3 (by decide) (hts _ gw_359) (fun _ h9 => h9) rfl dX9_constableIs_60 ?_
        refine lv_iload_n hx hb dX9_constableIs_63 rfl (lv_at hl 1 rfl) ?_
        refine kSI (As := [.ref (a1 3), .int p1]) (rest := []) C0 (kt_X9_at l G (a1 3) 8 (A1 3) p1 (by decide)) gi_S_X9_188_X9_at (n := 2) rfl (by decide +kernel) ⟨rfl, rfl, Nat.le_of_ble_eq_true rfl, Nat.le_of_ble_eq_true rfl⟩ hPD hS [6] [0, 1, 2, 3, 4, 5, 7, 8, 9, 10, 11, 12, 13, 14, 15, 16, 17, 18, 19, 20, 21, 22, 23, 24] [0, 1, 2, 3, 4, 5, 24, 6, 7, 8, 9, 10, 11, 12, 13, 14, 15, 16, 17, 18, 19, 20, 21, 22, 23] (wr := pick (wX9 G h0 a0 wk f0 A0 ++ (wX6 G (a0 2) a1 f1 A1 ++ (wB G (a0 5) g2 aB2 fB2 AB2))) [0, 1, 2, 3, 4, 5, 7, 8, 9, 10, 11, 12, 13, 14, 15, 16, 17, 18, 19, 20, 21, 22, 23, 24]) (wN := (wX9 G h0 a0 wk f0 A0 ++ (wX6 G (a0 2) a1 f1 A1 ++ (wB G (a0 5) g2 aB2 fB2 AB2)))) rfl rfl rfl rfl rfl hl.1 (Nat.le_of_ble_eq_true rfl) dX9_constableIs_64 (fun H locs hPD hS => ?_)
        obtain rfl := Option.some.inj h
        exact eI C0 hPD.1 hPD.2 hS rfl dX9_constableIs_67
      have h := (if_neg cc0).symm.trans h
      by_cases cc1 : p2 = 1
      · have h := (if_pos cc1).symm.trans h
        refine lv_swT (tgt := 68) (k := 1) hx hb dX9_constableIs_29 cc1 (by decide) (by decide) ?_
        refine lv_aload_n hx hb dX9_constableIs_68 rfl (lv_at hl 0 rfl) ?_
        refine va_get (D := G.1) (ci := 9) (v := .ref (a0 2)) (C := RX9) (T := TX9) (N := 15) hx hb hts inlX9 hown hK hPD.1 0 rfl rfl 2 (by decide) (hts _ gw_353) (fun _ h9 => h9) rfl dX9_constableIs_69 ?_
        refine va_get (D := G.1) (ci := 6) (v := .ref (a1 4)) (C := RX6) (T := TX6) (N := 10) hx hb hts inlX6 hown hK hPD.1 2 rfl rfl 4 (by decide) (hts _ gw_360) (fun _ h9 => h9) rfl dX9_constableIs_72 ?_
        refine lv_iload_n hx hb dX9_constableIs_75 rfl (lv_at hl 1 rfl) ?_
        refine kSI (As := [.ref (a1 4), .int p1]) (rest := []) C0 (kt_X9_at l G (a1 4) 8 (A1 4) p1 (by decide)) gi_S_X9_188_X9_at (n := 2) rfl (by decide +kernel) ⟨rfl, rfl, Nat.le_of_ble_eq_true rfl, Nat.le_of_ble_eq_true rfl⟩ hPD hS [7] [0, 1, 2, 3, 4, 5, 6, 8, 9, 10, 11, 12, 13, 14, 15, 16, 17, 18, 19, 20, 21, 22, 23, 24] [0, 1, 2, 3, 4, 5, 6, 24, 7, 8, 9, 10, 11, 12, 13, 14, 15, 16, 17, 18, 19, 20, 21, 22, 23] (wr := pick (wX9 G h0 a0 wk f0 A0 ++ (wX6 G (a0 2) a1 f1 A1 ++ (wB G (a0 5) g2 aB2 fB2 AB2))) [0, 1, 2, 3, 4, 5, 6, 8, 9, 10, 11, 12, 13, 14, 15, 16, 17, 18, 19, 20, 21, 22, 23, 24]) (wN := (wX9 G h0 a0 wk f0 A0 ++ (wX6 G (a0 2) a1 f1 A1 ++ (wB G (a0 5) g2 aB2 fB2 AB2)))) rfl rfl rfl rfl rfl hl.1 (Nat.le_of_ble_eq_true rfl) dX9_constableIs_76 (fun H locs hPD hS => ?_)
        obtain rfl := Option.some.inj h
        exact eI C0 hPD.1 hPD.2 hS rfl dX9_constableIs_79
      have h := (if_neg cc1).symm.trans h
      by_cases cc2 : p2 = 2
      · have h := (if_pos cc2).symm.trans h
        refine lv_swT (tgt := 80) (k := 2) hx hb dX9_constableIs_29 cc2 (by decide) (by decide) ?_
        refine lv_aload_n hx hb dX9_constableIs_80 rfl (lv_at hl 0 rfl) ?_
        refine va_get (D := G.1) (ci := 9) (v := .ref (a0 5)) (C := RX9) (T := TX9) (N := 15) hx hb hts inlX9 hown hK hPD.1 0 rfl rfl 5 (by decide) (hts _ gw_389) (fun _ h9 => h9) rfl dX9_constableIs_81 ?_
        refine lv_iload_n hx hb dX9_constableIs_84 rfl (lv_at hl 1 rfl) ?_
        obtain ⟨hi_1, h⟩ := ob h
        obtain ⟨b_2, eb_2, h⟩ := lvl h
        have hb_3 := bts_lt hi_1 eb_2
        refine va_aldB hx hb hK hPD.1 8 2 rfl rfl hi_1 eb_2 dX9_constableIs_85 ?_
        rcases lt8 hb_3 with rfl | rfl | rfl | rfl | rfl | rfl | rfl | rfl
        · refine lv_ifnonnull (tgt := 93) hx hb dX9_constableIs_86 (by decide) ?_
          refine lv_aload_n hx hb dX9_constableIs_93 rfl (lv_at hl 0 rfl) ?_
          refine va_get (D := G.1) (ci := 9) (v := .ref (a0 5)) (C := RX9) (T := TX9) (N := 15) hx hb hts inlX9 hown hK hPD.1 0 rfl rfl 5 (by decide) (hts _ gw_389) (fun _ h9 => h9) rfl dX9_constableIs_94 ?_
          refine lv_iload_n hx hb dX9_constableIs_97 rfl (lv_at hl 1 rfl) ?_
          obtain ⟨hi_4, h⟩ := ob h
          obtain ⟨b_5, eb_5, h⟩ := lvl h
          have hb_6 := bts_lt hi_4 eb_5
          refine va_aldB hx hb hK hPD.1 8 2 rfl rfl hi_4 eb_5 dX9_constableIs_98 ?_
          rcases lt8 hb_6 with rfl | rfl | rfl | rfl | rfl | rfl | rfl | rfl
          · refine va_get (D := G.1) (ci := 0) (v := .int (fB2 0 1)) (C := RX0) (T := TX0) (N := 2) hx hb hts inlX0 hown hK hPD.1 9 rfl rfl 1 (by decide) (hts _ gw_395) (fun _ h9 => h9) rfl dX9_constableIs_99 ?_
            obtain rfl := Option.some.inj h
            exact eI C0 hPD.1 hPD.2 hS rfl dX9_constableIs_102
          · refine va_get (D := G.1) (ci := 0) (v := .int (fB2 1 1)) (C := RX0) (T := TX0) (N := 2) hx hb hts inlX0 hown hK hPD.1 11 rfl rfl 1 (by decide) (hts _ gw_395) (fun _ h9 => h9) rfl dX9_constableIs_99 ?_
            obtain rfl := Option.some.inj h
            exact eI C0 hPD.1 hPD.2 hS rfl dX9_constableIs_102
          · refine va_get (D := G.1) (ci := 0) (v := .int (fB2 2 1)) (C := RX0) (T := TX0) (N := 2) hx hb hts inlX0 hown hK hPD.1 13 rfl rfl 1 (by decide) (hts _ gw_395) (fun _ h9 => h9) rfl dX9_constableIs_99 ?_
            obtain rfl := Option.some.inj h
            exact eI C0 hPD.1 hPD.2 hS rfl dX9_constableIs_102
          · refine va_get (D := G.1) (ci := 0) (v := .int (fB2 3 1)) (C := RX0) (T := TX0) (N := 2) hx hb hts inlX0 hown hK hPD.1 15 rfl rfl 1 (by decide) (hts _ gw_395) (fun _ h9 => h9) rfl dX9_constableIs_99 ?_
            obtain rfl := Option.some.inj h
            exact eI C0 hPD.1 hPD.2 hS rfl dX9_constableIs_102
          · refine va_get (D := G.1) (ci := 0) (v := .int (fB2 4 1)) (C := RX0) (T := TX0) (N := 2) hx hb hts inlX0 hown hK hPD.1 17 rfl rfl 1 (by decide) (hts _ gw_395) (fun _ h9 => h9) rfl dX9_constableIs_99 ?_
            obtain rfl := Option.some.inj h
            exact eI C0 hPD.1 hPD.2 hS rfl dX9_constableIs_102
          · refine va_get (D := G.1) (ci := 0) (v := .int (fB2 5 1)) (C := RX0) (T := TX0) (N := 2) hx hb hts inlX0 hown hK hPD.1 19 rfl rfl 1 (by decide) (hts _ gw_395) (fun _ h9 => h9) rfl dX9_constableIs_99 ?_
            obtain rfl := Option.some.inj h
            exact eI C0 hPD.1 hPD.2 hS rfl dX9_constableIs_102
          · refine va_get (D := G.1) (ci := 0) (v := .int (fB2 6 1)) (C := RX0) (T := TX0) (N := 2) hx hb hts inlX0 hown hK hPD.1 21 rfl rfl 1 (by decide) (hts _ gw_395) (fun _ h9 => h9) rfl dX9_constableIs_99 ?_
            obtain rfl := Option.some.inj h
            exact eI C0 hPD.1 hPD.2 hS rfl dX9_constableIs_102
          · refine va_get (D := G.1) (ci := 0) (v := .int (fB2 7 1)) (C := RX0) (T := TX0) (N := 2) hx hb hts inlX0 hown hK hPD.1 23 rfl rfl 1 (by decide) (hts _ gw_395) (fun _ h9 => h9) rfl dX9_constableIs_99 ?_
            obtain rfl := Option.some.inj h
            exact eI C0 hPD.1 hPD.2 hS rfl dX9_constableIs_102
        · refine lv_ifnonnull (tgt := 93) hx hb dX9_constableIs_86 (by decide) ?_
          refine lv_aload_n hx hb dX9_constableIs_93 rfl (lv_at hl 0 rfl) ?_
          refine va_get (D := G.1) (ci := 9) (v := .ref (a0 5)) (C := RX9) (T := TX9) (N := 15) hx hb hts inlX9 hown hK hPD.1 0 rfl rfl 5 (by decide) (hts _ gw_389) (fun _ h9 => h9) rfl dX9_constableIs_94 ?_
          refine lv_iload_n hx hb dX9_constableIs_97 rfl (lv_at hl 1 rfl) ?_
          obtain ⟨hi_4, h⟩ := ob h
          obtain ⟨b_5, eb_5, h⟩ := lvl h
          have hb_6 := bts_lt hi_4 eb_5
          refine va_aldB hx hb hK hPD.1 8 2 rfl rfl hi_4 eb_5 dX9_constableIs_98 ?_
          rcases lt8 hb_6 with rfl | rfl | rfl | rfl | rfl | rfl | rfl | rfl
          · refine va_get (D := G.1) (ci := 0) (v := .int (fB2 0 1)) (C := RX0) (T := TX0) (N := 2) hx hb hts inlX0 hown hK hPD.1 9 rfl rfl 1 (by decide) (hts _ gw_395) (fun _ h9 => h9) rfl dX9_constableIs_99 ?_
            obtain rfl := Option.some.inj h
            exact eI C0 hPD.1 hPD.2 hS rfl dX9_constableIs_102
          · refine va_get (D := G.1) (ci := 0) (v := .int (fB2 1 1)) (C := RX0) (T := TX0) (N := 2) hx hb hts inlX0 hown hK hPD.1 11 rfl rfl 1 (by decide) (hts _ gw_395) (fun _ h9 => h9) rfl dX9_constableIs_99 ?_
            obtain rfl := Option.some.inj h
            exact eI C0 hPD.1 hPD.2 hS rfl dX9_constableIs_102
          · refine va_get (D := G.1) (ci := 0) (v := .int (fB2 2 1)) (C := RX0) (T := TX0) (N := 2) hx hb hts inlX0 hown hK hPD.1 13 rfl rfl 1 (by decide) (hts _ gw_395) (fun _ h9 => h9) rfl dX9_constableIs_99 ?_
            obtain rfl := Option.some.inj h
            exact eI C0 hPD.1 hPD.2 hS rfl dX9_constableIs_102
          · refine va_get (D := G.1) (ci := 0) (v := .int (fB2 3 1)) (C := RX0) (T := TX0) (N := 2) hx hb hts inlX0 hown hK hPD.1 15 rfl rfl 1 (by decide) (hts _ gw_395) (fun _ h9 => h9) rfl dX9_constableIs_99 ?_
            obtain rfl := Option.some.inj h
            exact eI C0 hPD.1 hPD.2 hS rfl dX9_constableIs_102
          · refine va_get (D := G.1) (ci := 0) (v := .int (fB2 4 1)) (C := RX0) (T := TX0) (N := 2) hx hb hts inlX0 hown hK hPD.1 17 rfl rfl 1 (by decide) (hts _ gw_395) (fun _ h9 => h9) rfl dX9_constableIs_99 ?_
            obtain rfl := Option.some.inj h
            exact eI C0 hPD.1 hPD.2 hS rfl dX9_constableIs_102
          · refine va_get (D := G.1) (ci := 0) (v := .int (fB2 5 1)) (C := RX0) (T := TX0) (N := 2) hx hb hts inlX0 hown hK hPD.1 19 rfl rfl 1 (by decide) (hts _ gw_395) (fun _ h9 => h9) rfl dX9_constableIs_99 ?_
            obtain rfl := Option.some.inj h
            exact eI C0 hPD.1 hPD.2 hS rfl dX9_constableIs_102
          · refine va_get (D := G.1) (ci := 0) (v := .int (fB2 6 1)) (C := RX0) (T := TX0) (N := 2) hx hb hts inlX0 hown hK hPD.1 21 rfl rfl 1 (by decide) (hts _ gw_395) (fun _ h9 => h9) rfl dX9_constableIs_99 ?_
            obtain rfl := Option.some.inj h
            exact eI C0 hPD.1 hPD.2 hS rfl dX9_constableIs_102
          · refine va_get (D := G.1) (ci := 0) (v := .int (fB2 7 1)) (C := RX0) (T := TX0) (N := 2) hx hb hts inlX0 hown hK hPD.1 23 rfl rfl 1 (by decide) (hts _ gw_395) (fun _ h9 => h9) rfl dX9_constableIs_99 ?_
            obtain rfl := Option.some.inj h
            exact eI C0 hPD.1 hPD.2 hS rfl dX9_constableIs_102
        · refine lv_ifnonnull (tgt := 93) hx hb dX9_constableIs_86 (by decide) ?_
          refine lv_aload_n hx hb dX9_constableIs_93 rfl (lv_at hl 0 rfl) ?_
          refine va_get (D := G.1) (ci := 9) (v := .ref (a0 5)) (C := RX9) (T := TX9) (N := 15) hx hb hts inlX9 hown hK hPD.1 0 rfl rfl 5 (by decide) (hts _ gw_389) (fun _ h9 => h9) rfl dX9_constableIs_94 ?_
          refine lv_iload_n hx hb dX9_constableIs_97 rfl (lv_at hl 1 rfl) ?_
          obtain ⟨hi_4, h⟩ := ob h
          obtain ⟨b_5, eb_5, h⟩ := lvl h
          have hb_6 := bts_lt hi_4 eb_5
          refine va_aldB hx hb hK hPD.1 8 2 rfl rfl hi_4 eb_5 dX9_constableIs_98 ?_
          rcases lt8 hb_6 with rfl | rfl | rfl | rfl | rfl | rfl | rfl | rfl
          · refine va_get (D := G.1) (ci := 0) (v := .int (fB2 0 1)) (C := RX0) (T := TX0) (N := 2) hx hb hts inlX0 hown hK hPD.1 9 rfl rfl 1 (by decide) (hts _ gw_395) (fun _ h9 => h9) rfl dX9_constableIs_99 ?_
            obtain rfl := Option.some.inj h
            exact eI C0 hPD.1 hPD.2 hS rfl dX9_constableIs_102
          · refine va_get (D := G.1) (ci := 0) (v := .int (fB2 1 1)) (C := RX0) (T := TX0) (N := 2) hx hb hts inlX0 hown hK hPD.1 11 rfl rfl 1 (by decide) (hts _ gw_395) (fun _ h9 => h9) rfl dX9_constableIs_99 ?_
            obtain rfl := Option.some.inj h
            exact eI C0 hPD.1 hPD.2 hS rfl dX9_constableIs_102
          · refine va_get (D := G.1) (ci := 0) (v := .int (fB2 2 1)) (C := RX0) (T := TX0) (N := 2) hx hb hts inlX0 hown hK hPD.1 13 rfl rfl 1 (by decide) (hts _ gw_395) (fun _ h9 => h9) rfl dX9_constableIs_99 ?_
            obtain rfl := Option.some.inj h
            exact eI C0 hPD.1 hPD.2 hS rfl dX9_constableIs_102
          · refine va_get (D := G.1) (ci := 0) (v := .int (fB2 3 1)) (C := RX0) (T := TX0) (N := 2) hx hb hts inlX0 hown hK hPD.1 15 rfl rfl 1 (by decide) (hts _ gw_395) (fun _ h9 => h9) rfl dX9_constableIs_99 ?_
            obtain rfl := Option.some.inj h
            exact eI C0 hPD.1 hPD.2 hS rfl dX9_constableIs_102
          · refine va_get (D := G.1) (ci := 0) (v := .int (fB2 4 1)) (C := RX0) (T := TX0) (N := 2) hx hb hts inlX0 hown hK hPD.1 17 rfl rfl 1 (by decide) (hts _ gw_395) (fun _ h9 => h9) rfl dX9_constableIs_99 ?_
            obtain rfl := Option.some.inj h
            exact eI C0 hPD.1 hPD.2 hS rfl dX9_constableIs_102
          · refine va_get (D := G.1) (ci := 0) (v := .int (fB2 5 1)) (C := RX0) (T := TX0) (N := 2) hx hb hts inlX0 hown hK hPD.1 19 rfl rfl 1 (by decide) (hts _ gw_395) (fun _ h9 => h9) rfl dX9_constableIs_99 ?_
            obtain rfl := Option.some.inj h
            exact eI C0 hPD.1 hPD.2 hS rfl dX9_constableIs_102
          · refine va_get (D := G.1) (ci := 0) (v := .int (fB2 6 1)) (C := RX0) (T := TX0) (N := 2) hx hb hts inlX0 hown hK hPD.1 21 rfl rfl 1 (by decide) (hts _ gw_395) (fun _ h9 => h9) rfl dX9_constableIs_99 ?_
            obtain rfl := Option.some.inj h
            exact eI C0 hPD.1 hPD.2 hS rfl dX9_constableIs_102
          · refine va_get (D := G.1) (ci := 0) (v := .int (fB2 7 1)) (C := RX0) (T := TX0) (N := 2) hx hb hts inlX0 hown hK hPD.1 23 rfl rfl 1 (by decide) (hts _ gw_395) (fun _ h9 => h9) rfl dX9_constableIs_99 ?_
            obtain rfl := Option.some.inj h
            exact eI C0 hPD.1 hPD.2 hS rfl dX9_constableIs_102
        · refine lv_ifnonnull (tgt := 93) hx hb dX9_constableIs_86 (by decide) ?_
          refine lv_aload_n hx hb dX9_constableIs_93 rfl (lv_at hl 0 rfl) ?_
          refine va_get (D := G.1) (ci := 9) (v := .ref (a0 5)) (C := RX9) (T := TX9) (N := 15) hx hb hts inlX9 hown hK hPD.1 0 rfl rfl 5 (by decide) (hts _ gw_389) (fun _ h9 => h9) rfl dX9_constableIs_94 ?_
          refine lv_iload_n hx hb dX9_constableIs_97 rfl (lv_at hl 1 rfl) ?_
          obtain ⟨hi_4, h⟩ := ob h
          obtain ⟨b_5, eb_5, h⟩ := lvl h
          have hb_6 := bts_lt hi_4 eb_5
          refine va_aldB hx hb hK hPD.1 8 2 rfl rfl hi_4 eb_5 dX9_constableIs_98 ?_
          rcases lt8 hb_6 with rfl | rfl | rfl | rfl | rfl | rfl | rfl | rfl
          · refine va_get (D := G.1) (ci := 0) (v := .int (fB2 0 1)) (C := RX0) (T := TX0) (N := 2) hx hb hts inlX0 hown hK hPD.1 9 rfl rfl 1 (by decide) (hts _ gw_395) (fun _ h9 => h9) rfl dX9_constableIs_99 ?_
            obtain rfl := Option.some.inj h
            exact eI C0 hPD.1 hPD.2 hS rfl dX9_constableIs_102
          · refine va_get (D := G.1) (ci := 0) (v := .int (fB2 1 1)) (C := RX0) (T := TX0) (N := 2) hx hb hts inlX0 hown hK hPD.1 11 rfl rfl 1 (by decide) (hts _ gw_395) (fun _ h9 => h9) rfl dX9_constableIs_99 ?_
            obtain rfl := Option.some.inj h
            exact eI C0 hPD.1 hPD.2 hS rfl dX9_constableIs_102
          · refine va_get (D := G.1) (ci := 0) (v := .int (fB2 2 1)) (C := RX0) (T := TX0) (N := 2) hx hb hts inlX0 hown hK hPD.1 13 rfl rfl 1 (by decide) (hts _ gw_395) (fun _ h9 => h9) rfl dX9_constableIs_99 ?_
            obtain rfl := Option.some.inj h
            exact eI C0 hPD.1 hPD.2 hS rfl dX9_constableIs_102
          · refine va_get (D := G.1) (ci := 0) (v := .int (fB2 3 1)) (C := RX0) (T := TX0) (N := 2) hx hb hts inlX0 hown hK hPD.1 15 rfl rfl 1 (by decide) (hts _ gw_395) (fun _ h9 => h9) rfl dX9_constableIs_99 ?_
            obtain rfl := Option.some.inj h
            exact eI C0 hPD.1 hPD.2 hS rfl dX9_constableIs_102
          · refine va_get (D := G.1) (ci := 0) (v := .int (fB2 4 1)) (C := RX0) (T := TX0) (N := 2) hx hb hts inlX0 hown hK hPD.1 17 rfl rfl 1 (by decide) (hts _ gw_395) (fun _ h9 => h9) rfl dX9_constableIs_99 ?_
            obtain rfl := Option.some.inj h
            exact eI C0 hPD.1 hPD.2 hS rfl dX9_constableIs_102
          · refine va_get (D := G.1) (ci := 0) (v := .int (fB2 5 1)) (C := RX0) (T := TX0) (N := 2) hx hb hts inlX0 hown hK hPD.1 19 rfl rfl 1 (by decide) (hts _ gw_395) (fun _ h9 => h9) rfl dX9_constableIs_99 ?_
            obtain rfl := Option.some.inj h
            exact eI C0 hPD.1 hPD.2 hS rfl dX9_constableIs_102
          · refine va_get (D := G.1) (ci := 0) (v := .int (fB2 6 1)) (C := RX0) (T := TX0) (N := 2) hx hb hts inlX0 hown hK hPD.1 21 rfl rfl 1 (by decide) (hts _ gw_395) (fun _ h9 => h9) rfl dX9_constableIs_99 ?_
            obtain rfl := Option.some.inj h
            exact eI C0 hPD.1 hPD.2 hS rfl dX9_constableIs_102
          · refine va_get (D := G.1) (ci := 0) (v := .int (fB2 7 1)) (C := RX0) (T := TX0) (N := 2) hx hb hts inlX0 hown hK hPD.1 23 rfl rfl 1 (by decide) (hts _ gw_395) (fun _ h9 => h9) rfl dX9_constableIs_99 ?_
            obtain rfl := Option.some.inj h
            exact eI C0 hPD.1 hPD.2 hS rfl dX9_constableIs_102
        · refine lv_ifnonnull (tgt := 93) hx hb dX9_constableIs_86 (by decide) ?_
          refine lv_aload_n hx hb dX9_constableIs_93 rfl (lv_at hl 0 rfl) ?_
          refine va_get (D := G.1) (ci := 9) (v := .ref (a0 5)) (C := RX9) (T := TX9) (N := 15) hx hb hts inlX9 hown hK hPD.1 0 rfl rfl 5 (by decide) (hts _ gw_389) (fun _ h9 => h9) rfl dX9_constableIs_94 ?_
          refine lv_iload_n hx hb dX9_constableIs_97 rfl (lv_at hl 1 rfl) ?_
          obtain ⟨hi_4, h⟩ := ob h
          obtain ⟨b_5, eb_5, h⟩ := lvl h
          have hb_6 := bts_lt hi_4 eb_5
          refine va_aldB hx hb hK hPD.1 8 2 rfl rfl hi_4 eb_5 dX9_constableIs_98 ?_
          rcases lt8 hb_6 with rfl | rfl | rfl | rfl | rfl | rfl | rfl | rfl
          · refine va_get (D := G.1) (ci := 0) (v := .int (fB2 0 1)) (C := RX0) (T := TX0) (N := 2) hx hb hts inlX0 hown hK hPD.1 9 rfl rfl 1 (by decide) (hts _ gw_395) (fun _ h9 => h9) rfl dX9_constableIs_99 ?_
            obtain rfl := Option.some.inj h
            exact eI C0 hPD.1 hPD.2 hS rfl dX9_constableIs_102
          · refine va_get (D := G.1) (ci := 0) (v := .int (fB2 1 1)) (C := RX0) (T := TX0) (N := 2) hx hb hts inlX0 hown hK hPD.1 11 rfl rfl 1 (by decide) (hts _ gw_395) (fun _ h9 => h9) rfl dX9_constableIs_99 ?_
            obtain rfl := Option.some.inj h
            exact eI C0 hPD.1 hPD.2 hS rfl dX9_constableIs_102
          · refine va_get (D := G.1) (ci := 0) (v := .int (fB2 2 1)) (C := RX0) (T := TX0) (N := 2) hx hb hts inlX0 hown hK hPD.1 13 rfl rfl 1 (by decide) (hts _ gw_395) (fun _ h9 => h9) rfl dX9_constableIs_99 ?_
            obtain rfl := Option.some.inj h
            exact eI C0 hPD.1 hPD.2 hS rfl dX9_constableIs_102
          · refine va_get (D := G.1) (ci := 0) (v := .int (fB2 3 1)) (C := RX0) (T := TX0) (N := 2) hx hb hts inlX0 hown hK hPD.1 15 rfl rfl 1 (by decide) (hts _ gw_395) (fun _ h9 => h9) rfl dX9_constableIs_99 ?_
            obtain rfl := Option.some.inj h
            exact eI C0 hPD.1 hPD.2 hS rfl dX9_constableIs_102
          · refine va_get (D := G.1) (ci := 0) (v := .int (fB2 4 1)) (C := RX0) (T := TX0) (N := 2) hx hb hts inlX0 hown hK hPD.1 17 rfl rfl 1 (by decide) (hts _ gw_395) (fun _ h9 => h9) rfl dX9_constableIs_99 ?_
            obtain rfl := Option.some.inj h
            exact eI C0 hPD.1 hPD.2 hS rfl dX9_constableIs_102
          · refine va_get (D := G.1) (ci := 0) (v := .int (fB2 5 1)) (C := RX0) (T := TX0) (N := 2) hx hb hts inlX0 hown hK hPD.1 19 rfl rfl 1 (by decide) (hts _ gw_395) (fun _ h9 => h9) rfl dX9_constableIs_99 ?_
            obtain rfl := Option.some.inj h
            exact eI C0 hPD.1 hPD.2 hS rfl dX9_constableIs_102
          · refine va_get (D := G.1) (ci := 0) (v := .int (fB2 6 1)) (C := RX0) (T := TX0) (N := 2) hx hb hts inlX0 hown hK hPD.1 21 rfl rfl 1 (by decide) (hts _ gw_395) (fun _ h9 => h9) rfl dX9_constableIs_99 ?_
            obtain rfl := Option.some.inj h
            exact eI C0 hPD.1 hPD.2 hS rfl dX9_constableIs_102
          · refine va_get (D := G.1) (ci := 0) (v := .int (fB2 7 1)) (C := RX0) (T := TX0) (N := 2) hx hb hts inlX0 hown hK hPD.1 23 rfl rfl 1 (by decide) (hts _ gw_395) (fun _ h9 => h9) rfl dX9_constableIs_99 ?_
            obtain rfl := Option.some.inj h
            exact eI C0 hPD.1 hPD.2 hS rfl dX9_constableIs_102
        · refine lv_ifnonnull (tgt := 93) hx hb dX9_constableIs_86 (by decide) ?_
          refine lv_aload_n hx hb dX9_constableIs_93 rfl (lv_at hl 0 rfl) ?_
          refine va_get (D := G.1) (ci := 9) (v := .ref (a0 5)) (C := RX9) (T := TX9) (N := 15) hx hb hts inlX9 hown hK hPD.1 0 rfl rfl 5 (by decide) (hts _ gw_389) (fun _ h9 => h9) rfl dX9_constableIs_94 ?_
          refine lv_iload_n hx hb dX9_constableIs_97 rfl (lv_at hl 1 rfl) ?_
          obtain ⟨hi_4, h⟩ := ob h
          obtain ⟨b_5, eb_5, h⟩ := lvl h
          have hb_6 := bts_lt hi_4 eb_5
          refine va_aldB hx hb hK hPD.1 8 2 rfl rfl hi_4 eb_5 dX9_constableIs_98 ?_
          rcases lt8 hb_6 with rfl | rfl | rfl | rfl | rfl | rfl | rfl | rfl
          · refine va_get (D := G.1) (ci := 0) (v := .int (fB2 0 1)) (C := RX0) (T := TX0) (N := 2) hx hb hts inlX0 hown hK hPD.1 9 rfl rfl 1 (by decide) (hts _ gw_395) (fun _ h9 => h9) rfl dX9_constableIs_99 ?_
            obtain rfl := Option.some.inj h
            exact eI C0 hPD.1 hPD.2 hS rfl dX9_constableIs_102
          · refine va_get (D := G.1) (ci := 0) (v := .int (fB2 1 1)) (C := RX0) (T := TX0) (N := 2) hx hb hts inlX0 hown hK hPD.1 11 rfl rfl 1 (by decide) (hts _ gw_395) (fun _ h9 => h9) rfl dX9_constableIs_99 ?_
            obtain rfl := Option.some.inj h
            exact eI C0 hPD.1 hPD.2 hS rfl dX9_constableIs_102
          · refine va_get (D := G.1) (ci := 0) (v := .int (fB2 2 1)) (C := RX0) (T := TX0) (N := 2) hx hb hts inlX0 hown hK hPD.1 13 rfl rfl 1 (by decide) (hts _ gw_395) (fun _ h9 => h9) rfl dX9_constableIs_99 ?_
            obtain rfl := Option.some.inj h
            exact eI C0 hPD.1 hPD.2 hS rfl dX9_constableIs_102
          · refine va_get (D := G.1) (ci := 0) (v := .int (fB2 3 1)) (C := RX0) (T := TX0) (N := 2) hx hb hts inlX0 hown hK hPD.1 15 rfl rfl 1 (by decide) (hts _ gw_395) (fun _ h9 => h9) rfl dX9_constableIs_99 ?_
            obtain rfl := Option.some.inj h
            exact eI C0 hPD.1 hPD.2 hS rfl dX9_constableIs_102
          · refine va_get (D := G.1) (ci := 0) (v := .int (fB2 4 1)) (C := RX0) (T := TX0) (N := 2) hx hb hts inlX0 hown hK hPD.1 17 rfl rfl 1 (by decide) (hts _ gw_395) (fun _ h9 => h9) rfl dX9_constableIs_99 ?_
            obtain rfl := Option.some.inj h
            exact eI C0 hPD.1 hPD.2 hS rfl dX9_constableIs_102
          · refine va_get (D := G.1) (ci := 0) (v := .int (fB2 5 1)) (C := RX0) (T := TX0) (N := 2) hx hb hts inlX0 hown hK hPD.1 19 rfl rfl 1 (by decide) (hts _ gw_395) (fun _ h9 => h9) rfl dX9_constableIs_99 ?_
            obtain rfl := Option.some.inj h
            exact eI C0 hPD.1 hPD.2 hS rfl dX9_constableIs_102
          · refine va_get (D := G.1) (ci := 0) (v := .int (fB2 6 1)) (C := RX0) (T := TX0) (N := 2) hx hb hts inlX0 hown hK hPD.1 21 rfl rfl 1 (by decide) (hts _ gw_395) (fun _ h9 => h9) rfl dX9_constableIs_99 ?_
            obtain rfl := Option.some.inj h
            exact eI C0 hPD.1 hPD.2 hS rfl dX9_constableIs_102
          · refine va_get (D := G.1) (ci := 0) (v := .int (fB2 7 1)) (C := RX0) (T := TX0) (N := 2) hx hb hts inlX0 hown hK hPD.1 23 rfl rfl 1 (by decide) (hts _ gw_395) (fun _ h9 => h9) rfl dX9_constableIs_99 ?_
            obtain rfl := Option.some.inj h
            exact eI C0 hPD.1 hPD.2 hS rfl dX9_constableIs_102
        · refine lv_ifnonnull (tgt := 93) hx hb dX9_constableIs_86 (by decide) ?_
          refine lv_aload_n hx hb dX9_constableIs_93 rfl (lv_at hl 0 rfl) ?_
          refine va_get (D := G.1) (ci := 9) (v := .ref (a0 5)) (C := RX9) (T := TX9) (N := 15) hx hb hts inlX9 hown hK hPD.1 0 rfl rfl 5 (by decide) (hts _ gw_389) (fun _ h9 => h9) rfl dX9_constableIs_94 ?_
          refine lv_iload_n hx hb dX9_constableIs_97 rfl (lv_at hl 1 rfl) ?_
          obtain ⟨hi_4, h⟩ := ob h
          obtain ⟨b_5, eb_5, h⟩ := lvl h
          have hb_6 := bts_lt hi_4 eb_5
          refine va_aldB hx hb hK hPD.1 8 2 rfl rfl hi_4 eb_5 dX9_constableIs_98 ?_
          rcases lt8 hb_6 with rfl | rfl | rfl | rfl | rfl | rfl | rfl | rfl
          · refine va_get (D := G.1) (ci := 0) (v := .int (fB2 0 1)) (C := RX0) (T := TX0) (N := 2) hx hb hts inlX0 hown hK hPD.1 9 rfl rfl 1 (by decide) (hts _ gw_395) (fun _ h9 => h9) rfl dX9_constableIs_99 ?_
            obtain rfl := Option.some.inj h
            exact eI C0 hPD.1 hPD.2 hS rfl dX9_constableIs_102
          · refine va_get (D := G.1) (ci := 0) (v := .int (fB2 1 1)) (C := RX0) (T := TX0) (N := 2) hx hb hts inlX0 hown hK hPD.1 11 rfl rfl 1 (by decide) (hts _ gw_395) (fun _ h9 => h9) rfl dX9_constableIs_99 ?_
            obtain rfl := Option.some.inj h
            exact eI C0 hPD.1 hPD.2 hS rfl dX9_constableIs_102
          · refine va_get (D := G.1) (ci := 0) (v := .int (fB2 2 1)) (C := RX0) (T := TX0) (N := 2) hx hb hts inlX0 hown hK hPD.1 13 rfl rfl 1 (by decide) (hts _ gw_395) (fun _ h9 => h9) rfl dX9_constableIs_99 ?_
            obtain rfl := Option.some.inj h
            exact eI C0 hPD.1 hPD.2 hS rfl dX9_constableIs_102
          · refine va_get (D := G.1) (ci := 0) (v := .int (fB2 3 1)) (C := RX0) (T := TX0) (N := 2) hx hb hts inlX0 hown hK hPD.1 15 rfl rfl 1 (by decide) (hts _ gw_395) (fun _ h9 => h9) rfl dX9_constableIs_99 ?_
            obtain rfl := Option.some.inj h
            exact eI C0 hPD.1 hPD.2 hS rfl dX9_constableIs_102
          · refine va_get (D := G.1) (ci := 0) (v := .int (fB2 4 1)) (C := RX0) (T := TX0) (N := 2) hx hb hts inlX0 hown hK hPD.1 17 rfl rfl 1 (by decide) (hts _ gw_395) (fun _ h9 => h9) rfl dX9_constableIs_99 ?_
            obtain rfl := Option.some.inj h
            exact eI C0 hPD.1 hPD.2 hS rfl dX9_constableIs_102
          · refine va_get (D := G.1) (ci := 0) (v := .int (fB2 5 1)) (C := RX0) (T := TX0) (N := 2) hx hb hts inlX0 hown hK hPD.1 19 rfl rfl 1 (by decide) (hts _ gw_395) (fun _ h9 => h9) rfl dX9_constableIs_99 ?_
            obtain rfl := Option.some.inj h
            exact eI C0 hPD.1 hPD.2 hS rfl dX9_constableIs_102
          · refine va_get (D := G.1) (ci := 0) (v := .int (fB2 6 1)) (C := RX0) (T := TX0) (N := 2) hx hb hts inlX0 hown hK hPD.1 21 rfl rfl 1 (by decide) (hts _ gw_395) (fun _ h9 => h9) rfl dX9_constableIs_99 ?_
            obtain rfl := Option.some.inj h
            exact eI C0 hPD.1 hPD.2 hS rfl dX9_constableIs_102
          · refine va_get (D := G.1) (ci := 0) (v := .int (fB2 7 1)) (C := RX0) (T := TX0) (N := 2) hx hb hts inlX0 hown hK hPD.1 23 rfl rfl 1 (by decide) (hts _ gw_395) (fun _ h9 => h9) rfl dX9_constableIs_99 ?_
            obtain rfl := Option.some.inj h
            exact eI C0 hPD.1 hPD.2 hS rfl dX9_constableIs_102
        · refine lv_ifnonnull (tgt := 93) hx hb dX9_constableIs_86 (by decide) ?_
          refine lv_aload_n hx hb dX9_constableIs_93 rfl (lv_at hl 0 rfl) ?_
          refine va_get (D := G.1) (ci := 9) (v := .ref (a0 5)) (C := RX9) (T := TX9) (N := 15) hx hb hts inlX9 hown hK hPD.1 0 rfl rfl 5 (by decide) (hts _ gw_389) (fun _ h9 => h9) rfl dX9_constableIs_94 ?_
          refine lv_iload_n hx hb dX9_constableIs_97 rfl (lv_at hl 1 rfl) ?_
          obtain ⟨hi_4, h⟩ := ob h
          obtain ⟨b_5, eb_5, h⟩ := lvl h
          have hb_6 := bts_lt hi_4 eb_5
          refine va_aldB hx hb hK hPD.1 8 2 rfl rfl hi_4 eb_5 dX9_constableIs_98 ?_
          rcases lt8 hb_6 with rfl | rfl | rfl | rfl | rfl | rfl | rfl | rfl
          · refine va_get (D := G.1) (ci := 0) (v := .int (fB2 0 1)) (C := RX0) (T := TX0) (N := 2) hx hb hts inlX0 hown hK hPD.1 9 rfl rfl 1 (by decide) (hts _ gw_395) (fun _ h9 => h9) rfl dX9_constableIs_99 ?_
            obtain rfl := Option.some.inj h
            exact eI C0 hPD.1 hPD.2 hS rfl dX9_constableIs_102
          · refine va_get (D := G.1) (ci := 0) (v := .int (fB2 1 1)) (C := RX0) (T := TX0) (N := 2) hx hb hts inlX0 hown hK hPD.1 11 rfl rfl 1 (by decide) (hts _ gw_395) (fun _ h9 => h9) rfl dX9_constableIs_99 ?_
            obtain rfl := Option.some.inj h
            exact eI C0 hPD.1 hPD.2 hS rfl dX9_constableIs_102
          · refine va_get (D := G.1) (ci := 0) (v := .int (fB2 2 1)) (C := RX0) (T := TX0) (N := 2) hx hb hts inlX0 hown hK hPD.1 13 rfl rfl 1 (by decide) (hts _ gw_395) (fun _ h9 => h9) rfl dX9_constableIs_99 ?_
            obtain rfl := Option.some.inj h
            exact eI C0 hPD.1 hPD.2 hS rfl dX9_constableIs_102
          · refine va_get (D := G.1) (ci := 0) (v := .int (fB2 3 1)) (C := RX0) (T := TX0) (N := 2) hx hb hts inlX0 hown hK hPD.1 15 rfl rfl 1 (by decide) (hts _ gw_395) (fun _ h9 => h9) rfl dX9_constableIs_99 ?_
            obtain rfl := Option.some.inj h
            exact eI C0 hPD.1 hPD.2 hS rfl dX9_constableIs_102
          · refine va_get (D := G.1) (ci := 0) (v := .int (fB2 4 1)) (C := RX0) (T := TX0) (N := 2) hx hb hts inlX0 hown hK hPD.1 17 rfl rfl 1 (by decide) (hts _ gw_395) (fun _ h9 => h9) rfl dX9_constableIs_99 ?_
            obtain rfl := Option.some.inj h
            exact eI C0 hPD.1 hPD.2 hS rfl dX9_constableIs_102
          · refine va_get (D := G.1) (ci := 0) (v := .int (fB2 5 1)) (C := RX0) (T := TX0) (N := 2) hx hb hts inlX0 hown hK hPD.1 19 rfl rfl 1 (by decide) (hts _ gw_395) (fun _ h9 => h9) rfl dX9_constableIs_99 ?_
            obtain rfl := Option.some.inj h
            exact eI C0 hPD.1 hPD.2 hS rfl dX9_constableIs_102
          · refine va_get (D := G.1) (ci := 0) (v := .int (fB2 6 1)) (C := RX0) (T := TX0) (N := 2) hx hb hts inlX0 hown hK hPD.1 21 rfl rfl 1 (by decide) (hts _ gw_395) (fun _ h9 => h9) rfl dX9_constableIs_99 ?_
            obtain rfl := Option.some.inj h
            exact eI C0 hPD.1 hPD.2 hS rfl dX9_constableIs_102
          · refine va_get (D := G.1) (ci := 0) (v := .int (fB2 7 1)) (C := RX0) (T := TX0) (N := 2) hx hb hts inlX0 hown hK hPD.1 23 rfl rfl 1 (by decide) (hts _ gw_395) (fun _ h9 => h9) rfl dX9_constableIs_99 ?_
            obtain rfl := Option.some.inj h
            exact eI C0 hPD.1 hPD.2 hS rfl dX9_constableIs_102
      have h := (if_neg cc2).symm.trans h
      refine lv_swTD (tgt := 103) (ks := [0, 1, 2]) hx hb dX9_constableIs_29 (by decide) (by decide) ⟨cc0, cc1, cc2, trivial⟩ (by decide) ?_
      refine lv_iconst (v := (-1)) hx hb dX9_constableIs_103 (by decide) ?_
      obtain rfl := Option.some.inj h
      exact eI C0 hPD.1 hPD.2 hS rfl dX9_constableIs_104
    · have h := (if_pos cc1).symm.trans h
      refine lv_iconst (v := (-1)) hx hb dX9_constableIs_26 (by decide) ?_
      obtain rfl := Option.some.inj h
      exact eI C0 hPD.1 hPD.2 hS rfl dX9_constableIs_27
end WALK
