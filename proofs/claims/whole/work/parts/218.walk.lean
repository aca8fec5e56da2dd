section WALK
variable {p : Program} {l : Launch} {e : Env} {s : State} {m : MethodId} {args : Array Value} {below : List Frame} {meth : Method} {c : Code} {G : Gp} {DA : Nat → Prop}
abbrev rmX9_pleas : Room := { frames := 6, cells := 0, slots := 0, locals := 136 }
set_option maxRecDepth 100000 in
set_option maxHeartbeats 4000000 in
theorem ww_f9_pleas_b71  (C0 : Cx cX9_pleas 2 (some .int) RX9 p s m args meth c G DA) {h0 : Nat} {a0 : Nat → Nat} {wk : Option Nat} {a1 : Nat → Nat} {a2 : Nat → Nat} {a3 : Nat → Nat} {a4 : Nat → Nat} {f0 : Nat → Int32} {A0 : Nat → Nat → Int32} {A1 : Nat → Nat → Int32} {f2 : Nat → Int32} {f3 : Nat → Int32} {p1 : Int32}   {res : Int32 × (Nat → Int32) × (Nat → Nat → Int32) × (Nat → Nat → Int32) × (Nat → Nat → Int32) × (Nat → Int32)}  : ∀ (f1 : Nat → Int32) (A2 : Nat → Nat → Int32) (A3 : Nat → Nat → Int32) (A4 : Nat → Nat → Int32) (f4 : Nat → Int32), f9_pleas_b71 f0 A0 A1 f2 f3 p1  f1 A2 A3 A4 f4 = some res → ∀ (H : Heap) (locs : List Loc) (ls : Array Slot), WD G DA (wX9 G h0 a0 wk f0 A0 ++ (wX7 G (a0 0) a1 f1 A1 ++ (wX1 G (a0 1) a2 f2 A2 ++ (wX6 G (a0 2) a3 f3 A3 ++ (wX3 G (a0 7) a4 f4 A4))))) H → va_S DA s.heap H locs → lv_has ls 2 [(0, .ref h0), (1, .int p1)] → W p l e rmX9_pleas s m args below meth c H locs 0 0 (MQ below (QI G DA res.1 (wX9 G h0 a0 wk f0 A0 ++ (wX7 G (a0 0) a1 res.2.1 A1 ++ (wX1 G (a0 1) a2 f2 res.2.2.1 ++ (wX6 G (a0 2) a3 f3 res.2.2.2.1 ++ (wX3 G (a0 7) a4 res.2.2.2.2.2 res.2.2.2.2.1)))))) args s 0 0 DA) (F0 m 71 ls []) := by
  obtain ⟨hx, hb, hml, hown, hts⟩ := C0.1
  have hK := C0.2.2.2.1
  intro f1 A2 A3 A4 f4 h _ _ _ hPD hS hl
  unfold f9_pleas_b71 at h
  refine lv_aload_n hx hb dX9_pleas_71 rfl (lv_at hl 0 rfl) ?_
  refine va_get (D := G.1) (ci := 9) (v := .ref (a0 0)) (C := RX9) (T := TX9) (N := 15) hx hb hts inlX9 hown hK hPD.1 0 rfl rfl 0 (by decide) (hts _ gw_363) (fun _ h9 => h9) rfl dX9_pleas_72 ?_
  refine lv_aload_n hx hb dX9_pleas_75 rfl (lv_at hl 0 rfl) ?_
  refine va_get (D := G.1) (ci := 9) (v := .ref (a0 7)) (C := RX9) (T := TX9) (N := 15) hx hb hts inlX9 hown hK hPD.1 0 rfl rfl 7 (by decide) (hts _ gw_396) (fun _ h9 => h9) rfl dX9_pleas_76 ?_
  refine va_get (D := G.1) (ci := 3) (v := .int (f4 3)) (C := RX3) (T := TX3) (N := 4) hx hb hts inlX3 hown hK hPD.1 14 rfl rfl 3 (by decide) (hts _ gw_401) (fun _ h9 => h9) rfl dX9_pleas_79 ?_
  refine kVI (As := [.int (f4 3)]) (rest := []) C0 (kt_X7_answer l G (a0 0) a1 f1 A1 (f4 3)) gi_V_X9_149_X7_answer (n := 1) rfl (by decide +kernel) rfl ⟨rfl, rfl, Nat.le_of_ble_eq_true rfl, Nat.le_of_ble_eq_true rfl⟩ hPD hS 2 7 rfl rfl rfl [2, 3] [0, 1, 4, 5, 6, 7, 8, 9, 10, 11, 12, 13, 14, 15, 16, 17] [0, 1, 16, 17, 2, 3, 4, 5, 6, 7, 8, 9, 10, 11, 12, 13, 14, 15] (wr := (wX9 G h0 a0 wk f0 A0 ++ (wX1 G (a0 1) a2 f2 A2 ++ (wX6 G (a0 2) a3 f3 A3 ++ (wX3 G (a0 7) a4 f4 A4))))) (wN := (wX9 G h0 a0 wk f0 A0 ++ (wX7 G (a0 0) a1 f1 A1 ++ (wX1 G (a0 1) a2 f2 A2 ++ (wX6 G (a0 2) a3 f3 A3 ++ (wX3 G (a0 7) a4 f4 A4)))))) rfl rfl rfl rfl rfl hl.1 (Nat.le_of_ble_eq_true rfl) dX9_pleas_82 (fun H locs hPD hS => ?_)
  obtain rfl := Option.some.inj h
  exact eI C0 hPD.1 hPD.2 hS rfl dX9_pleas_85
set_option maxRecDepth 100000 in
set_option maxHeartbeats 4000000 in
theorem kt_X9_pleas (l : Launch) (G : Gp) (h0 : Nat) (a0 : Nat → Nat) (wk : Option Nat) (a1 : Nat → Nat) (a2 : Nat → Nat) (a3 : Nat → Nat) (a4 : Nat → Nat) (f0 : Nat → Int32) (A0 : Nat → Nat → Int32) (f1 : Nat → Int32) (A1 : Nat → Nat → Int32) (f2 : Nat → Int32) (A2 : Nat → Nat → Int32) (f3 : Nat → Int32) (A3 : Nat → Nat → Int32) (f4 : Nat → Int32) (A4 : Nat → Nat → Int32) (p1 : Int32) : ∀ {r : Int32 × (Nat → Int32) × (Nat → Nat → Int32) × (Nat → Nat → Int32) × (Nat → Nat → Int32) × (Nat → Int32)}, f9_pleas f0 A0 f1 A1 f2 A2 f3 A3 f4 A4 p1 = some r → CtrI l yX9_pleas cX9_pleas 2 (some .int) rmX9_pleas G [.ref h0, .int p1] (wX9 G h0 a0 wk f0 A0 ++ (wX7 G (a0 0) a1 f1 A1 ++ (wX1 G (a0 1) a2 f2 A2 ++ (wX6 G (a0 2) a3 f3 A3 ++ (wX3 G (a0 7) a4 f4 A4))))) r.1 (wX9 G h0 a0 wk f0 A0 ++ (wX7 G (a0 0) a1 r.2.1 A1 ++ (wX1 G (a0 1) a2 f2 r.2.2.1 ++ (wX6 G (a0 2) a3 f3 r.2.2.2.1 ++ (wX3 G (a0 7) a4 r.2.2.2.2.2 r.2.2.2.2.1))))) := by
  intro res h
  refine ctrI_of (cc := cX9_pleas) (maxL := 2) (ret := (some .int)) (by decide +kernel) rfl (Nat.le_of_ble_eq_true rfl) (fun p e s m below meth c DA C0 hP hD ls hl => ?_)
  have hPD : WD G DA (wX9 G h0 a0 wk f0 A0 ++ (wX7 G (a0 0) a1 f1 A1 ++ (wX1 G (a0 1) a2 f2 A2 ++ (wX6 G (a0 2) a3 f3 A3 ++ (wX3 G (a0 7) a4 f4 A4))))) s.heap := ⟨hP, hD⟩
  have hS : va_S DA s.heap s.heap [] := va_S.rf
  have hl : lv_has ls 2 [(0, .ref h0), (1, .int p1)] := hl
  obtain ⟨hx, hb, hml, hown, hts⟩ := C0.1
  have hK := C0.2.2.2.1
  unfold f9_pleas at h
  refine lv_iload_n hx hb dX9_pleas_0 rfl (lv_at hl 1 rfl) ?_
  refine lv_iconst (v := 1) hx hb dX9_pleas_1 (by decide) ?_
  refine lv_bipush (v := 120) hx hb dX9_pleas_2 (by decide) ?_
  refine kSI (As := [.int p1, .int 1, .int 120]) (rest := []) C0 (kt_X9_within l G  p1 1 120) gi_S_X9_90_X9_within (n := 3) rfl (by decide +kernel) ⟨rfl, rfl, Nat.le_of_ble_eq_true rfl, Nat.le_of_ble_eq_true rfl⟩ hPD hS [] [0, 1, 2, 3, 4, 5, 6, 7, 8, 9, 10, 11, 12, 13, 14, 15, 16, 17] [0, 1, 2, 3, 4, 5, 6, 7, 8, 9, 10, 11, 12, 13, 14, 15, 16, 17] (wr := (wX9 G h0 a0 wk f0 A0 ++ (wX7 G (a0 0) a1 f1 A1 ++ (wX1 G (a0 1) a2 f2 A2 ++ (wX6 G (a0 2) a3 f3 A3 ++ (wX3 G (a0 7) a4 f4 A4)))))) (wN := (wX9 G h0 a0 wk f0 A0 ++ (wX7 G (a0 0) a1 f1 A1 ++ (wX1 G (a0 1) a2 f2 A2 ++ (wX6 G (a0 2) a3 f3 A3 ++ (wX3 G (a0 7) a4 f4 A4)))))) rfl rfl rfl rfl rfl hl.1 (Nat.le_of_ble_eq_true rfl) dX9_pleas_4 (fun H locs hPD hS => ?_)
  refine lv_if_eq (tgt := 21) hx hb dX9_pleas_7 (by decide) (fun cc1 => ?_) (fun cc1 => ?_)
  · have h := (if_pos cc1).symm.trans h
    refine lv_iconst (v := (-1)) hx hb dX9_pleas_21 (by decide) ?_
    obtain rfl := Option.some.inj h
    exact eI C0 hPD.1 hPD.2 hS rfl dX9_pleas_22
  · have h := (if_neg cc1).symm.trans h
    refine lv_aload_n hx hb dX9_pleas_10 rfl (lv_at hl 0 rfl) ?_
    refine va_get (D := G.1) (ci := 9) (v := .ref (a0 0)) (C := RX9) (T := TX9) (N := 15) hx hb hts inlX9 hown hK hPD.1 0 rfl rfl 0 (by decide) (hts _ gw_363) (fun _ h9 => h9) rfl dX9_pleas_11 ?_
    refine lv_iload_n hx hb dX9_pleas_14 rfl (lv_at hl 1 rfl) ?_
    refine kVI (As := [.int p1]) (rest := []) C0 (kt_X7_holds l G (a0 0) a1 f1 A1 p1) gi_V_X9_132_X7_holds (n := 1) rfl (by decide +kernel) rfl ⟨rfl, rfl, Nat.le_of_ble_eq_true rfl, Nat.le_of_ble_eq_true rfl⟩ hPD hS 2 7 rfl rfl rfl [2, 3] [0, 1, 4, 5, 6, 7, 8, 9, 10, 11, 12, 13, 14, 15, 16, 17] [0, 1, 16, 17, 2, 3, 4, 5, 6, 7, 8, 9, 10, 11, 12, 13, 14, 15] (wr := (wX9 G h0 a0 wk f0 A0 ++ (wX1 G (a0 1) a2 f2 A2 ++ (wX6 G (a0 2) a3 f3 A3 ++ (wX3 G (a0 7) a4 f4 A4))))) (wN := (wX9 G h0 a0 wk f0 A0 ++ (wX7 G (a0 0) a1 f1 A1 ++ (wX1 G (a0 1) a2 f2 A2 ++ (wX6 G (a0 2) a3 f3 A3 ++ (wX3 G (a0 7) a4 f4 A4)))))) rfl rfl rfl rfl rfl hl.1 (Nat.le_of_ble_eq_true rfl) dX9_pleas_15 (fun H locs hPD hS => ?_)
    refine lv_if_ne (tgt := 23) hx hb dX9_pleas_18 (by decide) (fun cc1 => ?_) (fun cc1 => ?_)
    · have h := (if_neg cc1).symm.trans h
      refine lv_aload_n hx hb dX9_pleas_23 rfl (lv_at hl 0 rfl) ?_
      refine va_get (D := G.1) (ci := 9) (v := .ref (a0 0)) (C := RX9) (T := TX9) (N := 15) hx hb hts inlX9 hown hK hPD.1 0 rfl rfl 0 (by decide) (hts _ gw_363) (fun _ h9 => h9) rfl dX9_pleas_24 ?_
      refine lv_iload_n hx hb dX9_pleas_27 rfl (lv_at hl 1 rfl) ?_
      obtain ⟨z_1, ez_1, h⟩ := lvl h
      have kc := kt_X7_open l G (a0 0) a1 f1 A1 p1
      rw [← ez_1] at kc
      clear ez_1
      refine kVV (As := [.int p1]) (rest := []) C0 (kc) gi_V_X9_135_X7_open (n := 1) rfl (by decide +kernel) rfl ⟨rfl, rfl, Nat.le_of_ble_eq_true rfl, Nat.le_of_ble_eq_true rfl⟩ hPD hS 2 7 rfl rfl rfl [2, 3] [0, 1, 4, 5, 6, 7, 8, 9, 10, 11, 12, 13, 14, 15, 16, 17] [0, 1, 16, 17, 2, 3, 4, 5, 6, 7, 8, 9, 10, 11, 12, 13, 14, 15] (wr := (wX9 G h0 a0 wk f0 A0 ++ (wX1 G (a0 1) a2 f2 A2 ++ (wX6 G (a0 2) a3 f3 A3 ++ (wX3 G (a0 7) a4 f4 A4))))) (wN := (wX9 G h0 a0 wk f0 A0 ++ (wX7 G (a0 0) a1 z_1 A1 ++ (wX1 G (a0 1) a2 f2 A2 ++ (wX6 G (a0 2) a3 f3 A3 ++ (wX3 G (a0 7) a4 f4 A4)))))) rfl rfl rfl rfl rfl hl.1 (Nat.le_of_ble_eq_true rfl) dX9_pleas_28 (fun H locs hPD hS => ?_)
      refine lv_aload_n hx hb dX9_pleas_31 rfl (lv_at hl 0 rfl) ?_
      refine va_get (D := G.1) (ci := 9) (v := .ref (a0 7)) (C := RX9) (T := TX9) (N := 15) hx hb hts inlX9 hown hK hPD.1 0 rfl rfl 7 (by decide) (hts _ gw_396) (fun _ h9 => h9) rfl dX9_pleas_32 ?_
      refine lv_aload_n hx hb dX9_pleas_35 rfl (lv_at hl 0 rfl) ?_
      refine va_get (D := G.1) (ci := 9) (v := .ref (a0 0)) (C := RX9) (T := TX9) (N := 15) hx hb hts inlX9 hown hK hPD.1 0 rfl rfl 0 (by decide) (hts _ gw_363) (fun _ h9 => h9) rfl dX9_pleas_36 ?_
      refine lv_aload_n hx hb dX9_pleas_39 rfl (lv_at hl 0 rfl) ?_
      refine va_get (D := G.1) (ci := 9) (v := .ref (a0 1)) (C := RX9) (T := TX9) (N := 15) hx hb hts inlX9 hown hK hPD.1 0 rfl rfl 1 (by decide) (hts _ gw_351) (fun _ h9 => h9) rfl dX9_pleas_40 ?_
      obtain ⟨q_2, hq_2, h⟩ := ob2 h
      refine kVV (As := [.ref (a0 0), .ref (a0 1)]) (rest := []) C0 (kt_X3_read l G (a0 7) a4 (a0 0) a1 (a0 1) a2 f4 A4 z_1 A1 f2 A2 hq_2) gi_V_X9_155_X3_read (n := 2) rfl (by decide +kernel) rfl ⟨rfl, rfl, Nat.le_of_ble_eq_true rfl, Nat.le_of_ble_eq_true rfl⟩ hPD hS 14 3 rfl rfl rfl [14, 15, 16, 17, 2, 3, 4, 5, 6, 7] [0, 1, 8, 9, 10, 11, 12, 13] [0, 1, 12, 13, 14, 15, 16, 17, 2, 3, 4, 5, 6, 7, 8, 9, 10, 11] (wr := (wX9 G h0 a0 wk f0 A0 ++ (wX6 G (a0 2) a3 f3 A3))) (wN := (wX9 G h0 a0 wk f0 A0 ++ (wX7 G (a0 0) a1 q_2.2.2 A1 ++ (wX1 G (a0 1) a2 f2 A2 ++ (wX6 G (a0 2) a3 f3 A3 ++ (wX3 G (a0 7) a4 q_2.2.1 q_2.1)))))) rfl rfl rfl rfl rfl hl.1 (Nat.le_of_ble_eq_true rfl) dX9_pleas_43 (fun H locs hPD hS => ?_)
      refine lv_aload_n hx hb dX9_pleas_46 rfl (lv_at hl 0 rfl) ?_
      refine va_get (D := G.1) (ci := 9) (v := .ref (a0 0)) (C := RX9) (T := TX9) (N := 15) hx hb hts inlX9 hown hK hPD.1 0 rfl rfl 0 (by decide) (hts _ gw_363) (fun _ h9 => h9) rfl dX9_pleas_47 ?_
      refine kVI (As := []) (rest := []) C0 (kt_X7_isFine l G (a0 0) a1 q_2.2.2 A1) gi_V_X9_142_X7_isFine (n := 0) rfl (by decide +kernel) rfl ⟨rfl, rfl, Nat.le_of_ble_eq_true rfl, Nat.le_of_ble_eq_true rfl⟩ hPD hS 2 7 rfl rfl rfl [2, 3] [0, 1, 4, 5, 6, 7, 8, 9, 10, 11, 12, 13, 14, 15, 16, 17] [0, 1, 16, 17, 2, 3, 4, 5, 6, 7, 8, 9, 10, 11, 12, 13, 14, 15] (wr := (wX9 G h0 a0 wk f0 A0 ++ (wX1 G (a0 1) a2 f2 A2 ++ (wX6 G (a0 2) a3 f3 A3 ++ (wX3 G (a0 7) a4 q_2.2.1 q_2.1))))) (wN := (wX9 G h0 a0 wk f0 A0 ++ (wX7 G (a0 0) a1 q_2.2.2 A1 ++ (wX1 G (a0 1) a2 f2 A2 ++ (wX6 G (a0 2) a3 f3 A3 ++ (wX3 G (a0 7) a4 q_2.2.1 q_2.1)))))) rfl rfl rfl rfl rfl hl.1 (Nat.le_of_ble_eq_true rfl) dX9_pleas_50 (fun H locs hPD hS => ?_)
      refine lv_if_eq (tgt := 71) hx hb dX9_pleas_53 (by decide) (fun cc1 => ?_) (fun cc1 => ?_)
      · have h := (if_pos cc1).symm.trans h
        exact ww_f9_pleas_b71 C0 q_2.2.2 A2 A3 q_2.1 q_2.2.1 h _ _ _ hPD hS (lv_sub hl [0, 1] rfl)
      · have h := (if_neg cc1).symm.trans h
        refine lv_aload_n hx hb dX9_pleas_56 rfl (lv_at hl 0 rfl) ?_
        refine va_get (D := G.1) (ci := 9) (v := .ref (a0 7)) (C := RX9) (T := TX9) (N := 15) hx hb hts inlX9 hown hK hPD.1 0 rfl rfl 7 (by decide) (hts _ gw_396) (fun _ h9 => h9) rfl dX9_pleas_57 ?_
        refine lv_aload_n hx hb dX9_pleas_60 rfl (lv_at hl 0 rfl) ?_
        refine va_get (D := G.1) (ci := 9) (v := .ref (a0 2)) (C := RX9) (T := TX9) (N := 15) hx hb hts inlX9 hown hK hPD.1 0 rfl rfl 2 (by decide) (hts _ gw_353) (fun _ h9 => h9) rfl dX9_pleas_61 ?_
        refine lv_aload_n hx hb dX9_pleas_64 rfl (lv_at hl 0 rfl) ?_
        refine va_get (D := G.1) (ci := 9) (v := .ref (a0 1)) (C := RX9) (T := TX9) (N := 15) hx hb hts inlX9 hown hK hPD.1 0 rfl rfl 1 (by decide) (hts _ gw_351) (fun _ h9 => h9) rfl dX9_pleas_65 ?_
        obtain ⟨q_3, hq_3, h⟩ := ob2 h
        refine kVV (As := [.ref (a0 2), .ref (a0 1)]) (rest := []) C0 (kt_X3_grant l G (a0 7) a4 (a0 2) a3 (a0 1) a2 q_2.2.1 q_2.1 f3 A3 f2 A2 hq_3) gi_V_X9_158_X3_grant (n := 2) rfl (by decide +kernel) rfl ⟨rfl, rfl, Nat.le_of_ble_eq_true rfl, Nat.le_of_ble_eq_true rfl⟩ hPD hS 14 3 rfl rfl rfl [14, 15, 16, 17, 8, 9, 10, 11, 12, 13, 4, 5, 6, 7] [0, 1, 2, 3] [0, 1, 2, 3, 14, 15, 16, 17, 8, 9, 10, 11, 12, 13, 4, 5, 6, 7] (wr := (wX9 G h0 a0 wk f0 A0 ++ (wX7 G (a0 0) a1 q_2.2.2 A1))) (wN := (wX9 G h0 a0 wk f0 A0 ++ (wX7 G (a0 0) a1 q_2.2.2 A1 ++ (wX1 G (a0 1) a2 f2 q_3.2 ++ (wX6 G (a0 2) a3 f3 q_3.1 ++ (wX3 G (a0 7) a4 q_2.2.1 q_2.1)))))) rfl rfl rfl rfl rfl hl.1 (Nat.le_of_ble_eq_true rfl) dX9_pleas_68 (fun H locs hPD hS => ?_)
        exact ww_f9_pleas_b71 C0 q_2.2.2 q_3.2 q_3.1 q_2.1 q_2.2.1 h _ _ _ hPD hS (lv_sub hl [0, 1] rfl)
    · have h := (if_pos cc1).symm.trans h
      refine lv_iconst (v := (-1)) hx hb dX9_pleas_21 (by decide) ?_
      obtain rfl := Option.some.inj h
      exact eI C0 hPD.1 hPD.2 hS rfl dX9_pleas_22
abbrev rmX9_isHours : Room := { frames := 1, cells := 0, slots := 0, locals := 22 }
set_option maxRecDepth 100000 in
set_option maxHeartbeats 4000000 in
theorem kt_X9_isHours (l : Launch) (G : Gp) (p0 : Int32) : ∀ {r : Int32}, f9_isHours p0 = some r → CtrI l yX9_isHours cX9_isHours 1 (some .boolean) rmX9_isHours G [.int p0] ([] : va_W) r ([] : va_W) := by
  intro res h
  refine ctrI_of (cc := cX9_isHours) (maxL := 1) (ret := (some .boolean)) (by decide +kernel) rfl (Nat.le_of_ble_eq_true rfl) (fun p e s m below meth c DA C0 hP hD ls hl => ?_)
  have hPD : WD G DA ([] : va_W) s.heap := ⟨hP, hD⟩
  have hS : va_S DA s.heap s.heap [] := va_S.rf
  have hl : lv_has ls 1 [(0, .int p0)] := hl
  obtain ⟨hx, hb, hml, hown, hts⟩ := C0.1
  have hK := C0.2.2.2.1
  unfold f9_isHours at h
  refine lv_iload_n hx hb dX9_isHours_0 rfl (lv_at hl 0 rfl) ?_
  refine lv_iconst (v := 1) hx hb dX9_isHours_1 (by decide) ?_
  refine lv_sipush (v := 240) hx hb dX9_isHours_2 (by decide) ?_
  refine kSI (As := [.int p0, .int 1, .int 240]) (rest := []) C0 (kt_X9_within l G  p0 1 240) gi_S_X9_90_X9_within (n := 3) rfl (by decide +kernel) ⟨rfl, rfl, Nat.le_of_ble_eq_true rfl, Nat.le_of_ble_eq_true rfl⟩ hPD hS [] [] [] (wr := ([] : va_W)) (wN := ([] : va_W)) rfl rfl rfl rfl rfl hl.1 (Nat.le_of_ble_eq_true rfl) dX9_isHours_5 (fun H locs hPD hS => ?_)
  obtain ⟨hz, h⟩ := ob h
  obtain rfl := Option.some.inj h
  exact eZ C0 hPD.1 hPD.2 hS rfl (nbool (Classical.not_not.mp hz)) dX9_isHours_8
abbrev rmX9_passes : Room := { frames := 6, cells := 0, slots := 0, locals := 138 }
set_option maxRecDepth 100000 in
set_option maxHeartbeats 4000000 in
theorem kt_X9_passes (l : Launch) (G : Gp) (h0 : Nat) (a0 : Nat → Nat) (wk : Option Nat) (a1 : Nat → Nat) (g2 : Nat → Nat) (aB2 : Nat → Nat → Nat) (a3 : Nat → Nat) (a4 : Nat → Nat) (h5 : Nat) (a5 : Nat → Nat) (f0 : Nat → Int32) (A0 : Nat → Nat → Int32) (f1 : Nat → Int32) (A1 : Nat → Nat → Int32) (fB2 : Nat → Nat → Int32) (AB2 : Nat → Nat → Nat → Int32) (f3 : Nat → Int32) (A3 : Nat → Nat → Int32) (f4 : Nat → Int32) (A4 : Nat → Nat → Int32) (f5 : Nat → Int32) (A5 : Nat → Nat → Int32) : ∀ {r : Int32 × (Nat → Nat → Int32) × (Nat → Int32) × (Nat → Nat → Int32) × (Nat → Int32) × (Nat → Nat → Int32) × (Nat → Int32)}, f9_passes f0 A0 f1 A1 fB2 AB2 f3 A3 f4 A4 f5 A5 = some r → CtrI l yX9_passes cX9_passes 2 (some .boolean) rmX9_passes G [.ref h0, .ref h5] (wX9 G h0 a0 wk f0 A0 ++ (wX1 G (a0 1) a1 f1 A1 ++ (wB G (a0 5) g2 aB2 fB2 AB2 ++ (wX5 G (a0 6) a3 f3 A3 ++ (wX2 G (a0 11) a4 f4 A4 ++ (wX6 G h5 a5 f5 A5)))))) r.1 (wX9 G h0 a0 wk f0 A0 ++ (wX1 G (a0 1) a1 f1 A1 ++ (wB G (a0 5) g2 aB2 fB2 AB2 ++ (wX5 G (a0 6) a3 r.2.2.1 r.2.1 ++ (wX2 G (a0 11) a4 r.2.2.2.2.1 r.2.2.2.1 ++ (wX6 G h5 a5 r.2.2.2.2.2.2 r.2.2.2.2.2.1)))))) := by
  intro res h
  refine ctrI_of (cc := cX9_passes) (maxL := 2) (ret := (some .boolean)) (by decide +kernel) rfl (Nat.le_of_ble_eq_true rfl) (fun p e s m below meth c DA C0 hP hD ls hl => ?_)
  have hPD : WD G DA (wX9 G h0 a0 wk f0 A0 ++ (wX1 G (a0 1) a1 f1 A1 ++ (wB G (a0 5) g2 aB2 fB2 AB2 ++ (wX5 G (a0 6) a3 f3 A3 ++ (wX2 G (a0 11) a4 f4 A4 ++ (wX6 G h5 a5 f5 A5)))))) s.heap := ⟨hP, hD⟩
  have hS : va_S DA s.heap s.heap [] := va_S.rf
  have hl : lv_has ls 2 [(0, .ref h0), (1, .ref h5)] := hl
  obtain ⟨hx, hb, hml, hown, hts⟩ := C0.1
  have hK := C0.2.2.2.1
  unfold f9_passes at h
  refine lv_aload_n hx hb dX9_passes_0 rfl (lv_at hl 0 rfl) ?_
  refine va_get (D := G.1) (ci := 9) (v := .ref (a0 6)) (C := RX9) (T := TX9) (N := 15) hx hb hts inlX9 hown hK hPD.1 0 rfl rfl 6 (by decide) (hts _ gw_406) (fun _ h9 => h9) rfl dX9_passes_1 ?_
  refine lv_aload_n hx hb dX9_passes_4 rfl (lv_at hl 1 rfl) ?_
  refine lv_aload_n hx hb dX9_passes_5 rfl (lv_at hl 0 rfl) ?_
  refine va_get (D := G.1) (ci := 9) (v := .ref (a0 11)) (C := RX9) (T := TX9) (N := 15) hx hb hts inlX9 hown hK hPD.1 0 rfl rfl 11 (by decide) (hts _ gw_383) (fun _ h9 => h9) rfl dX9_passes_6 ?_
  refine lv_aload_n hx hb dX9_passes_9 rfl (lv_at hl 0 rfl) ?_
  refine va_get (D := G.1) (ci := 9) (v := .ref (a0 1)) (C := RX9) (T := TX9) (N := 15) hx hb hts inlX9 hown hK hPD.1 0 rfl rfl 1 (by decide) (hts _ gw_351) (fun _ h9 => h9) rfl dX9_passes_10 ?_
  refine lv_aload_n hx hb dX9_passes_13 rfl (lv_at hl 0 rfl) ?_
  refine va_get (D := G.1) (ci := 9) (v := .ref (a0 5)) (C := RX9) (T := TX9) (N := 15) hx hb hts inlX9 hown hK hPD.1 0 rfl rfl 5 (by decide) (hts _ gw_389) (fun _ h9 => h9) rfl dX9_passes_14 ?_
  obtain ⟨q_1, hq_1, h⟩ := ob2 h
  refine kVI (As := [.ref h5, .ref (a0 11), .ref (a0 1), .ref (a0 5)]) (rest := []) C0 (kt_X5_passes l G (a0 6) a3 h5 a5 (a0 11) a4 (a0 1) a1 (a0 5) g2 aB2 f3 A3 f5 A5 f4 A4 f1 A1 fB2 AB2 hq_1) gi_V_X9_209_X5_passes (n := 4) rfl (by decide +kernel) rfl ⟨rfl, rfl, Nat.le_of_ble_eq_true rfl, Nat.le_of_ble_eq_true rfl⟩ hPD hS 23 5 rfl rfl rfl [23, 24, 25, 34, 35, 36, 37, 38, 39, 26, 27, 28, 29, 30, 31, 32, 33, 2, 3, 4, 5, 6, 7, 8, 9, 10, 11, 12, 13, 14, 15, 16, 17, 18, 19, 20, 21, 22] [0, 1] [0, 1, 19, 20, 21, 22, 23, 24, 25, 26, 27, 28, 29, 30, 31, 32, 33, 34, 35, 36, 37, 38, 39, 2, 3, 4, 11, 12, 13, 14, 15, 16, 17, 18, 5, 6, 7, 8, 9, 10] (wr := (wX9 G h0 a0 wk f0 A0)) (wN := (wX9 G h0 a0 wk f0 A0 ++ (wX1 G (a0 1) a1 f1 A1 ++ (wB G (a0 5) g2 aB2 fB2 AB2 ++ (wX5 G (a0 6) a3 q_1.2.2.1 q_1.2.1 ++ (wX2 G (a0 11) a4 q_1.2.2.2.2.2.2 q_1.2.2.2.2.2.1 ++ (wX6 G h5 a5 q_1.2.2.2.2.1 q_1.2.2.2.1))))))) rfl rfl rfl rfl rfl hl.1 (Nat.le_of_ble_eq_true rfl) dX9_passes_17 (fun H locs hPD hS => ?_)
  obtain ⟨hz, h⟩ := ob h
  obtain rfl := Option.some.inj h
  exact eZ C0 hPD.1 hPD.2 hS rfl (nbool (Classical.not_not.mp hz)) dX9_passes_20
abbrev rmX9_hours : Room := { frames := 7, cells := 0, slots := 0, locals := 159 }
set_option maxRecDepth 100000 in
set_option maxHeartbeats 4000000 in
theorem ww_f9_hours_b13  (C0 : Cx cX9_hours 4 (some .int) RX9 p s m args meth c G DA) {h0 : Nat} {a0 : Nat → Nat} {wk : Option Nat} {a1 : Nat → Nat} {a2 : Nat → Nat} {g3 : Nat → Nat} {aB3 : Nat → Nat → Nat} {a4 : Nat → Nat} {a5 : Nat → Nat} {f0 : Nat → Int32} {A0 : Nat → Nat → Int32} {f1 : Nat → Int32} {A1 : Nat → Nat → Int32} {fB3 : Nat → Nat → Int32} {AB3 : Nat → Nat → Nat → Int32} {p1 : Int32}  {k13 : (Nat → Nat → Int32) → (Nat → Int32) → (Nat → Nat → Int32) → (Nat → Int32) → (Nat → Nat → Int32) → (Nat → Int32) → Int32 → Int32 → Option (Int32 × (Nat → Nat → Int32) × (Nat → Int32) × (Nat → Nat → Int32) × (Nat → Int32) × (Nat → Nat → Int32) × (Nat → Int32))} {res : Int32 × (Nat → Nat → Int32) × (Nat → Int32) × (Nat → Nat → Int32) × (Nat → Int32) × (Nat → Nat → Int32) × (Nat → Int32)}  (hk13 : ∀ (A2 : Nat → Nat → Int32) (f2 : Nat → Int32) (A4 : Nat → Nat → Int32) (f4 : Nat → Int32) (A5 : Nat → Nat → Int32) (f5 : Nat → Int32) (l2 : Int32) (l3 : Int32), k13 A2 f2 A4 f4 A5 f5 l2 l3 = some res → ∀ (H : Heap) (locs : List Loc) (ls : Array Slot), WD G DA (wX9 G h0 a0 wk f0 A0 ++ (wX1 G (a0 1) a1 f1 A1 ++ (wX6 G (a0 2) a2 f2 A2 ++ (wB G (a0 5) g3 aB3 fB3 AB3 ++ (wX5 G (a0 6) a4 f4 A4 ++ (wX2 G (a0 11) a5 f5 A5)))))) H → va_S DA s.heap H locs → lv_has ls 4 [(0, .ref h0), (1, .int p1), (2, .int l2), (3, .int l3)] → W p l e rmX9_hours s m args below meth c H locs 0 0 (MQ below (QI G DA res.1 (wX9 G h0 a0 wk f0 A0 ++ (wX1 G (a0 1) a1 f1 A1 ++ (wX6 G (a0 2) a2 res.2.2.1 res.2.1 ++ (wB G (a0 5) g3 aB3 fB3 AB3 ++ (wX5 G (a0 6) a4 res.2.2.2.2.1 res.2.2.2.1 ++ (wX2 G (a0 11) a5 res.2.2.2.2.2.2 res.2.2.2.2.2.1))))))) args s 0 0 DA) (F0 m 13 ls [])) : ∀ (A2 : Nat → Nat → Int32) (f2 : Nat → Int32) (A4 : Nat → Nat → Int32) (f4 : Nat → Int32) (A5 : Nat → Nat → Int32) (f5 : Nat → Int32) (l2 : Int32) (l3 : Int32), f9_hours_b13 f0 A0 f1 A1 fB3 AB3 p1  k13 A2 f2 A4 f4 A5 f5 l2 l3 = some res → ∀ (H : Heap) (locs : List Loc) (ls : Array Slot), WD G DA (wX9 G h0 a0 wk f0 A0 ++ (wX1 G (a0 1) a1 f1 A1 ++ (wX6 G (a0 2) a2 f2 A2 ++ (wB G (a0 5) g3 aB3 fB3 AB3 ++ (wX5 G (a0 6) a4 f4 A4 ++ (wX2 G (a0 11) a5 f5 A5)))))) H → va_S DA s.heap H locs → lv_has ls 4 [(0, .ref h0), (1, .int p1), (2, .int l2), (3, .int l3)] → W p l e rmX9_hours s m args below meth c H locs 0 0 (MQ below (QI G DA res.1 (wX9 G h0 a0 wk f0 A0 ++ (wX1 G (a0 1) a1 f1 A1 ++ (wX6 G (a0 2) a2 res.2.2.1 res.2.1 ++ (wB G (a0 5) g3 aB3 fB3 AB3 ++ (wX5 G (a0 6) a4 res.2.2.2.2.1 res.2.2.2.1 ++ (wX2 G (a0 11) a5 res.2.2.2.2.2.2 res.2.2.2.2.2.1))))))) args s 0 0 DA) (F0 m 13 ls []) := by
  obtain ⟨hx, hb, hml, hown, hts⟩ := C0.1
  have hK := C0.2.2.2.1
  intro A2 f2 A4 f4 A5 f5 l2 l3 h _ _ _ hPD hS hl
  unfold f9_hours_b13 at h
  refine lv_iload_n hx hb dX9_hours_13 rfl (lv_at hl 3 rfl) ?_
  refine lv_iload_n hx hb dX9_hours_14 rfl (lv_at hl 1 rfl) ?_
  refine lv_icmp_ge (tgt := 45) hx hb dX9_hours_15 (by decide) (fun cc1 => ?_) (fun cc1 => ?_)
  · have h := (if_pos cc1).symm.trans h
    refine lv_iload_n hx hb dX9_hours_45 rfl (lv_at hl 2 rfl) ?_
    obtain rfl := Option.some.inj h
    exact eI C0 hPD.1 hPD.2 hS rfl dX9_hours_46
  · have h := (if_neg cc1).symm.trans h
    refine lv_aload_n hx hb dX9_hours_18 rfl (lv_at hl 0 rfl) ?_
    refine lv_aload_n hx hb dX9_hours_19 rfl (lv_at hl 0 rfl) ?_
    refine va_get (D := G.1) (ci := 9) (v := .ref (a0 2)) (C := RX9) (T := TX9) (N := 15) hx hb hts inlX9 hown hK hPD.1 0 rfl rfl 2 (by decide) (hts _ gw_353) (fun _ h9 => h9) rfl dX9_hours_20 ?_
    obtain ⟨q_2, hq_2, h⟩ := ob2 h
    refine kVI (As := [.ref (a0 2)]) (rest := []) C0 (kt_X9_passes l G h0 a0 wk a1 g3 aB3 a4 a5 (a0 2) a2 f0 A0 f1 A1 fB3 AB3 f4 A4 f5 A5 f2 A2 hq_2) gi_V_X9_168_X9_passes (n := 1) rfl (by decide +kernel) rfl ⟨rfl, rfl, Nat.le_of_ble_eq_true rfl, Nat.le_of_ble_eq_true rfl⟩ hPD hS 0 9 rfl rfl rfl [0, 1, 2, 3, 4, 5, 12, 13, 14, 15, 16, 17, 18, 19, 20, 21, 22, 23, 24, 25, 26, 27, 28, 29, 30, 31, 32, 33, 34, 35, 36, 37, 38, 39, 6, 7, 8, 9, 10, 11] [] [0, 1, 2, 3, 4, 5, 34, 35, 36, 37, 38, 39, 6, 7, 8, 9, 10, 11, 12, 13, 14, 15, 16, 17, 18, 19, 20, 21, 22, 23, 24, 25, 26, 27, 28, 29, 30, 31, 32, 33] (wr := ([] : va_W)) (wN := (wX9 G h0 a0 wk f0 A0 ++ (wX1 G (a0 1) a1 f1 A1 ++ (wX6 G (a0 2) a2 q_2.2.2.2.2.2.2 q_2.2.2.2.2.2.1 ++ (wB G (a0 5) g3 aB3 fB3 AB3 ++ (wX5 G (a0 6) a4 q_2.2.2.1 q_2.2.1 ++ (wX2 G (a0 11) a5 q_2.2.2.2.2.1 q_2.2.2.2.1))))))) rfl rfl rfl rfl rfl hl.1 (Nat.le_of_ble_eq_true rfl) dX9_hours_23 (fun H locs hPD hS => ?_)
    refine lv_if_eq (tgt := 45) hx hb dX9_hours_26 (by decide) (fun cc1 => ?_) (fun cc1 => ?_)
    · have h := (if_pos cc1).symm.trans h
      refine lv_iload_n hx hb dX9_hours_45 rfl (lv_at hl 2 rfl) ?_
      obtain rfl := Option.some.inj h
      exact eI C0 hPD.1 hPD.2 hS rfl dX9_hours_46
    · have h := (if_neg cc1).symm.trans h
      refine lv_iload_n hx hb dX9_hours_29 rfl (lv_at hl 2 rfl) ?_
      refine lv_aload_n hx hb dX9_hours_30 rfl (lv_at hl 0 rfl) ?_
      refine va_get (D := G.1) (ci := 9) (v := .ref (a0 6)) (C := RX9) (T := TX9) (N := 15) hx hb hts inlX9 hown hK hPD.1 0 rfl rfl 6 (by decide) (hts _ gw_406) (fun _ h9 => h9) rfl dX9_hours_31 ?_
      refine va_get (D := G.1) (ci := 5) (v := .int (q_2.2.2.1 2)) (C := RX5) (T := TX5) (N := 4) hx hb hts inlX5 hown hK hPD.1 29 rfl rfl 2 (by decide) (hts _ gw_418) (fun _ h9 => h9) rfl dX9_hours_34 ?_
      refine lv_iadd hx hb dX9_hours_37 ?_
      refine lv_istore_n (lv' := [(2, .int (l2 + (q_2.2.2.1 2))), (0, .ref h0), (1, .int p1), (3, .int l3)]) hx hb dX9_hours_38 rfl hl (by decide) rfl (fun ls hl => ?_)
      refine lv_iinc (v := l3 + 1) (lv' := [(3, .int (l3 + 1)), (2, .int (l2 + (q_2.2.2.1 2))), (0, .ref h0), (1, .int p1)]) hx hb dX9_hours_39 hl (k := 3) rfl rfl (by decide) rfl (fun ls hl => ?_)
      refine lv_goto (tgt := 13) hx hb dX9_hours_42 (by decide) ?_
      exact hk13 q_2.2.2.2.2.2.1 q_2.2.2.2.2.2.2 q_2.2.1 q_2.2.2.1 q_2.2.2.2.1 q_2.2.2.2.2.1 (l2 + (q_2.2.2.1 2)) (l3 + 1) h _ _ _ hPD hS (lv_sub hl [2, 3, 1, 0] rfl)
set_option maxRecDepth 100000 in
set_option maxHeartbeats 4000000 in
theorem ww_f9_hours_l13  (C0 : Cx cX9_hours 4 (some .int) RX9 p s m args meth c G DA) {h0 : Nat} {a0 : Nat → Nat} {wk : Option Nat} {a1 : Nat → Nat} {a2 : Nat → Nat} {g3 : Nat → Nat} {aB3 : Nat → Nat → Nat} {a4 : Nat → Nat} {a5 : Nat → Nat} {f0 : Nat → Int32} {A0 : Nat → Nat → Int32} {f1 : Nat → Int32} {A1 : Nat → Nat → Int32} {fB3 : Nat → Nat → Int32} {AB3 : Nat → Nat → Nat → Int32} {p1 : Int32}   {res : Int32 × (Nat → Nat → Int32) × (Nat → Int32) × (Nat → Nat → Int32) × (Nat → Int32) × (Nat → Nat → Int32) × (Nat → Int32)}  : ∀ (n : Nat) (A2 : Nat → Nat → Int32) (f2 : Nat → Int32) (A4 : Nat → Nat → Int32) (f4 : Nat → Int32) (A5 : Nat → Nat → Int32) (f5 : Nat → Int32) (l2 : Int32) (l3 : Int32), f9_hours_l13 f0 A0 f1 A1 fB3 AB3 p1  n A2 f2 A4 f4 A5 f5 l2 l3 = some res → ∀ (H : Heap) (locs : List Loc) (ls : Array Slot), WD G DA (wX9 G h0 a0 wk f0 A0 ++ (wX1 G (a0 1) a1 f1 A1 ++ (wX6 G (a0 2) a2 f2 A2 ++ (wB G (a0 5) g3 aB3 fB3 AB3 ++ (wX5 G (a0 6) a4 f4 A4 ++ (wX2 G (a0 11) a5 f5 A5)))))) H → va_S DA s.heap H locs → lv_has ls 4 [(0, .ref h0), (1, .int p1), (2, .int l2), (3, .int l3)] → W p l e rmX9_hours s m args below meth c H locs 0 0 (MQ below (QI G DA res.1 (wX9 G h0 a0 wk f0 A0 ++ (wX1 G (a0 1) a1 f1 A1 ++ (wX6 G (a0 2) a2 res.2.2.1 res.2.1 ++ (wB G (a0 5) g3 aB3 fB3 AB3 ++ (wX5 G (a0 6) a4 res.2.2.2.2.1 res.2.2.2.1 ++ (wX2 G (a0 11) a5 res.2.2.2.2.2.2 res.2.2.2.2.2.1))))))) args s 0 0 DA) (F0 m 13 ls []) := by
  intro n
  induction n with
  | zero => intro A2 f2 A4 f4 A5 f5 l2 l3 h; cases h
  | succ n ih => intro A2 f2 A4 f4 A5 f5 l2 l3 h; exact ww_f9_hours_b13 C0  ih A2 f2 A4 f4 A5 f5 l2 l3 h
set_option maxRecDepth 100000 in
set_option maxHeartbeats 4000000 in
theorem kt_X9_hours (l : Launch) (G : Gp) (h0 : Nat) (a0 : Nat → Nat) (wk : Option Nat) (a1 : Nat → Nat) (a2 : Nat → Nat) (g3 : Nat → Nat) (aB3 : Nat → Nat → Nat) (a4 : Nat → Nat) (a5 : Nat → Nat) (f0 : Nat → Int32) (A0 : Nat → Nat → Int32) (f1 : Nat → Int32) (A1 : Nat → Nat → Int32) (f2 : Nat → Int32) (A2 : Nat → Nat → Int32) (fB3 : Nat → Nat → Int32) (AB3 : Nat → Nat → Nat → Int32) (f4 : Nat → Int32) (A4 : Nat → Nat → Int32) (f5 : Nat → Int32) (A5 : Nat → Nat → Int32) (p1 : Int32) : ∀ {r : Int32 × (Nat → Nat → Int32) × (Nat → Int32) × (Nat → Nat → Int32) × (Nat → Int32) × (Nat → Nat → Int32) × (Nat → Int32)}, f9_hours f0 A0 f1 A1 f2 A2 fB3 AB3 f4 A4 f5 A5 p1 = some r → CtrI l yX9_hours cX9_hours 4 (some .int) rmX9_hours G [.ref h0, .int p1] (wX9 G h0 a0 wk f0 A0 ++ (wX1 G (a0 1) a1 f1 A1 ++ (wX6 G (a0 2) a2 f2 A2 ++ (wB G (a0 5) g3 aB3 fB3 AB3 ++ (wX5 G (a0 6) a4 f4 A4 ++ (wX2 G (a0 11) a5 f5 A5)))))) r.1 (wX9 G h0 a0 wk f0 A0 ++ (wX1 G (a0 1) a1 f1 A1 ++ (wX6 G (a0 2) a2 r.2.2.1 r.2.1 ++ (wB G (a0 5) g3 aB3 fB3 AB3 ++ (wX5 G (a0 6) a4 r.2.2.2.2.1 r.2.2.2.1 ++ (wX2 G (a0 11) a5 r.2.2.2.2.2.2 r.2.2.2.2.2.1)))))) := by
  intro res h
  refine ctrI_of (cc := cX9_hours) (maxL := 4) (ret := (some .int)) (by decide +kernel) rfl (Nat.le_of_ble_eq_true rfl) (fun p e s m below meth c DA C0 hP hD ls hl => ?_)
  have hPD : WD G DA (wX9 G h0 a0 wk f0 A0 ++ (wX1 G (a0 1) a1 f1 A1 ++ (wX6 G (a0 2) a2 f2 A2 ++ (wB G (a0 5) g3 aB3 fB3 AB3 ++ (wX5 G (a0 6) a4 f4 A4 ++ (wX2 G (a0 11) a5 f5 A5)))))) s.heap := ⟨hP, hD⟩
  have hS : va_S DA s.heap s.heap [] := va_S.rf
  have hl : lv_has ls 4 [(0, .ref h0), (1, .int p1)] := hl
  obtain ⟨hx, hb, hml, hown, hts⟩ := C0.1
  have hK := C0.2.2.2.1
  unfold f9_hours at h
  refine lv_iload_n hx hb dX9_hours_0 rfl (lv_at hl 1 rfl) ?_
  obtain ⟨q_1, hq_1, h⟩ := ob2 h
  refine kSI (As := [.int p1]) (rest := []) C0 (kt_X9_isHours l G  p1 hq_1) gi_S_X9_165_X9_isHours (n := 1) rfl (by decide +kernel) ⟨rfl, rfl, Nat.le_of_ble_eq_true rfl, Nat.le_of_ble_eq_true rfl⟩ hPD hS [] [0, 1, 2, 3, 4, 5, 6, 7, 8, 9, 10, 11, 12, 13, 14, 15, 16, 17, 18, 19, 20, 21, 22, 23, 24, 25, 26, 27, 28, 29, 30, 31, 32, 33, 34, 35, 36, 37, 38, 39] [0, 1, 2, 3, 4, 5, 6, 7, 8, 9, 10, 11, 12, 13, 14, 15, 16, 17, 18, 19, 20, 21, 22, 23, 24, 25, 26, 27, 28, 29, 30, 31, 32, 33, 34, 35, 36, 37, 38, 39] (wr := (wX9 G h0 a0 wk f0 A0 ++ (wX1 G (a0 1) a1 f1 A1 ++ (wX6 G (a0 2) a2 f2 A2 ++ (wB G (a0 5) g3 aB3 fB3 AB3 ++ (wX5 G (a0 6) a4 f4 A4 ++ (wX2 G (a0 11) a5 f5 A5))))))) (wN := (wX9 G h0 a0 wk f0 A0 ++ (wX1 G (a0 1) a1 f1 A1 ++ (wX6 G (a0 2) a2 f2 A2 ++ (wB G (a0 5) g3 aB3 fB3 AB3 ++ (wX5 G (a0 6) a4 f4 A4 ++ (wX2 G (a0 11) a5 f5 A5))))))) rfl rfl rfl rfl rfl hl.1 (Nat.le_of_ble_eq_true rfl) dX9_hours_1 (fun H locs hPD hS => ?_)
  refine lv_if_ne (tgt := 9) hx hb dX9_hours_4 (by decide) (fun cc1 => ?_) (fun cc1 => ?_)
  · have h := (if_neg cc1).symm.trans h
    refine lv_iconst (v := 0) hx hb dX9_hours_9 (by decide) ?_
    refine lv_istore_n (lv' := [(2, .int 0), (0, .ref h0), (1, .int p1)]) hx hb dX9_hours_10 rfl hl (by decide) rfl (fun ls hl => ?_)
    refine lv_iconst (v := 0) hx hb dX9_hours_11 (by decide) ?_
    refine lv_istore_n (lv' := [(3, .int 0), (2, .int 0), (0, .ref h0), (1, .int p1)]) hx hb dX9_hours_12 rfl hl (by decide) rfl (fun ls hl => ?_)
    exact ww_f9_hours_l13 C0 NF A2 f2 A4 f4 A5 f5 0 0 h _ _ _ hPD hS (lv_sub hl [2, 3, 1, 0] rfl)
  · have h := (if_pos cc1).symm.trans h
    refine lv_iconst (v := (-1)) hx hb dX9_hours_7 (by decide) ?_
    obtain rfl := Option.some.inj h
    exact eI C0 hPD.1 hPD.2 hS rfl dX9_hours_8
abbrev rmX9_canBeTried : Room := { frames := 3, cells := 0, slots := 0, locals := 64 }
set_option maxRecDepth 100000 in
set_option maxHeartbeats 4000000 in
theorem kt_X9_canBeTried (l : Launch) (G : Gp) (h0 : Nat) (a0 : Nat → Nat) (wk : Option Nat) (a1 : Nat → Nat) (a2 : Nat → Nat) (f0 : Nat → Int32) (A0 : Nat → Nat → Int32) (f1 : Nat → Int32) (A1 : Nat → Nat → Int32) (f2 : Nat → Int32) (A2 : Nat → Nat → Int32) (p1 : Int32) : ∀ {r : Int32}, f9_canBeTried f0 A0 f1 A1 f2 A2 p1 = some r → CtrI l yX9_canBeTried cX9_canBeTried 2 (some .boolean) rmX9_canBeTried G [.ref h0, .int p1] (wX9 G h0 a0 wk f0 A0 ++ (wX1 G (a0 1) a1 f1 A1 ++ (wX6 G (a0 2) a2 f2 A2))) r (wX9 G h0 a0 wk f0 A0 ++ (wX1 G (a0 1) a1 f1 A1 ++ (wX6 G (a0 2) a2 f2 A2))) := by
  intro res h
  refine ctrI_of (cc := cX9_canBeTried) (maxL := 2) (ret := (some .boolean)) (by decide +kernel) rfl (Nat.le_of_ble_eq_true rfl) (fun p e s m below meth c DA C0 hP hD ls hl => ?_)
  have hPD : WD G DA (wX9 G h0 a0 wk f0 A0 ++ (wX1 G (a0 1) a1 f1 A1 ++ (wX6 G (a0 2) a2 f2 A2))) s.heap := ⟨hP, hD⟩
  have hS : va_S DA s.heap s.heap [] := va_S.rf
  have hl : lv_has ls 2 [(0, .ref h0), (1, .int p1)] := hl
  obtain ⟨hx, hb, hml, hown, hts⟩ := C0.1
  have hK := C0.2.2.2.1
  unfold f9_canBeTried at h
  refine lv_iload_n hx hb dX9_canBeTried_0 rfl (lv_at hl 1 rfl) ?_
  refine lv_bipush (v := 30) hx hb dX9_canBeTried_1 (by decide) ?_
  refine lv_bipush (v := 45) hx hb dX9_canBeTried_3 (by decide) ?_
  refine kSI (As := [.int p1, .int 30, .int 45]) (rest := []) C0 (kt_X9_within l G  p1 30 45) gi_S_X9_90_X9_within (n := 3) rfl (by decide +kernel) ⟨rfl, rfl, Nat.le_of_ble_eq_true rfl, Nat.le_of_ble_eq_true rfl⟩ hPD hS [] [0, 1, 2, 3, 4, 5, 6, 7, 8, 9, 10, 11] [0, 1, 2, 3, 4, 5, 6, 7, 8, 9, 10, 11] (wr := (wX9 G h0 a0 wk f0 A0 ++ (wX1 G (a0 1) a1 f1 A1 ++ (wX6 G (a0 2) a2 f2 A2)))) (wN := (wX9 G h0 a0 wk f0 A0 ++ (wX1 G (a0 1) a1 f1 A1 ++ (wX6 G (a0 2) a2 f2 A2)))) rfl rfl rfl rfl rfl hl.1 (Nat.le_of_ble_eq_true rfl) dX9_canBeTried_5 (fun H locs hPD hS => ?_)
  refine lv_if_eq (tgt := 23) hx hb dX9_canBeTried_8 (by decide) (fun cc1 => ?_) (fun cc1 => ?_)
  · have h := (if_pos cc1).symm.trans h
    refine lv_iload_n hx hb dX9_canBeTried_23 rfl (lv_at hl 1 rfl) ?_
    refine lv_bipush (v := 20) hx hb dX9_canBeTried_24 (by decide) ?_
    refine lv_bipush (v := 27) hx hb dX9_canBeTried_26 (by decide) ?_
    refine kSI (As := [.int p1, .int 20, .int 27]) (rest := []) C0 (kt_X9_within l G  p1 20 27) gi_S_X9_90_X9_within (n := 3) rfl (by decide +kernel) ⟨rfl, rfl, Nat.le_of_ble_eq_true rfl, Nat.le_of_ble_eq_true rfl⟩ hPD hS [] [0, 1, 2, 3, 4, 5, 6, 7, 8, 9, 10, 11] [0, 1, 2, 3, 4, 5, 6, 7, 8, 9, 10, 11] (wr := (wX9 G h0 a0 wk f0 A0 ++ (wX1 G (a0 1) a1 f1 A1 ++ (wX6 G (a0 2) a2 f2 A2)))) (wN := (wX9 G h0 a0 wk f0 A0 ++ (wX1 G (a0 1) a1 f1 A1 ++ (wX6 G (a0 2) a2 f2 A2)))) rfl rfl rfl rfl rfl hl.1 (Nat.le_of_ble_eq_true rfl) dX9_canBeTried_28 (fun H locs hPD hS => ?_)
    refine lv_if_eq (tgt := 46) hx hb dX9_canBeTried_31 (by decide) (fun cc1 => ?_) (fun cc1 => ?_)
    · have h := (if_pos cc1).symm.trans h
      refine lv_iload_n hx hb dX9_canBeTried_46 rfl (lv_at hl 1 rfl) ?_
      refine lv_iconst (v := 0) hx hb dX9_canBeTried_47 (by decide) ?_
      refine lv_iconst (v := 2) hx hb dX9_canBeTried_48 (by decide) ?_
      refine kSI (As := [.int p1, .int 0, .int 2]) (rest := []) C0 (kt_X9_within l G  p1 0 2) gi_S_X9_90_X9_within (n := 3) rfl (by decide +kernel) ⟨rfl, rfl, Nat.le_of_ble_eq_true rfl, Nat.le_of_ble_eq_true rfl⟩ hPD hS [] [0, 1, 2, 3, 4, 5, 6, 7, 8, 9, 10, 11] [0, 1, 2, 3, 4, 5, 6, 7, 8, 9, 10, 11] (wr := (wX9 G h0 a0 wk f0 A0 ++ (wX1 G (a0 1) a1 f1 A1 ++ (wX6 G (a0 2) a2 f2 A2)))) (wN := (wX9 G h0 a0 wk f0 A0 ++ (wX1 G (a0 1) a1 f1 A1 ++ (wX6 G (a0 2) a2 f2 A2)))) rfl rfl rfl rfl rfl hl.1 (Nat.le_of_ble_eq_true rfl) dX9_canBeTried_49 (fun H locs hPD hS => ?_)
      refine lv_if_ne (tgt := 80) hx hb dX9_canBeTried_52 (by decide) (fun cc1 => ?_) (fun cc1 => ?_)
      · have h := (if_neg cc1).symm.trans h
        refine lv_iconst (v := 1) hx hb dX9_canBeTried_80 (by decide) ?_
        refine lv_goto (tgt := 85) hx hb dX9_canBeTried_81 (by decide) ?_
        obtain rfl := Option.some.inj h
        exact eZ C0 hPD.1 hPD.2 hS rfl rfl dX9_canBeTried_85
      · have h := (if_pos cc1).symm.trans h
        refine lv_iload_n hx hb dX9_canBeTried_55 rfl (lv_at hl 1 rfl) ?_
        refine lv_bipush (v := 10) hx hb dX9_canBeTried_56 (by decide) ?_
        refine lv_bipush (v := 17) hx hb dX9_canBeTried_58 (by decide) ?_
        refine kSI (As := [.int p1, .int 10, .int 17]) (rest := []) C0 (kt_X9_within l G  p1 10 17) gi_S_X9_90_X9_within (n := 3) rfl (by decide +kernel) ⟨rfl, rfl, Nat.le_of_ble_eq_true rfl, Nat.le_of_ble_eq_true rfl⟩ hPD hS [] [0, 1, 2, 3, 4, 5, 6, 7, 8, 9, 10, 11] [0, 1, 2, 3, 4, 5, 6, 7, 8, 9, 10, 11] (wr := (wX9 G h0 a0 wk f0 A0 ++ (wX1 G (a0 1) a1 f1 A1 ++ (wX6 G (a0 2) a2 f2 A2)))) (wN := (wX9 G h0 a0 wk f0 A0 ++ (wX1 G (a0 1) a1 f1 A1 ++ (wX6 G (a0 2) a2 f2 A2)))) rfl rfl rfl rfl rfl hl.1 (Nat.le_of_ble_eq_true rfl) dX9_canBeTried_60 (fun H locs hPD hS => ?_)
        refine lv_if_eq (tgt := 84) hx hb dX9_canBeTried_63 (by decide) (fun cc1 => ?_) (fun cc1 => ?_)
        · have h := (if_pos cc1).symm.trans h
          refine lv_iconst (v := 0) hx hb dX9_canBeTried_84 (by decide) ?_
          obtain rfl := Option.some.inj h
          exact eZ C0 hPD.1 hPD.2 hS rfl rfl dX9_canBeTried_85
        · have h := (if_neg cc1).symm.trans h
          refine lv_aload_n hx hb dX9_canBeTried_66 rfl (lv_at hl 0 rfl) ?_
          refine va_get (D := G.1) (ci := 9) (v := .ref (a0 2)) (C := RX9) (T := TX9) (N := 15) hx hb hts inlX9 hown hK hPD.1 0 rfl rfl 2 (by decide) (hts _ gw_353) (fun _ h9 => h9) rfl dX9_canBeTried_67 ?_
          refine lv_iload_n hx hb dX9_canBeTried_70 rfl (lv_at hl 1 rfl) ?_
          refine lv_bipush (v := 10) hx hb dX9_canBeTried_71 (by decide) ?_
          refine lv_isub hx hb dX9_canBeTried_73 ?_
          refine kVI (As := [.int (p1 - 10)]) (rest := []) C0 (kt_X6_isTold l G (a0 2) a2 f2 A2 (p1 - 10)) gi_V_X9_195_X6_isTold (n := 1) rfl (by decide +kernel) rfl ⟨rfl, rfl, Nat.le_of_ble_eq_true rfl, Nat.le_of_ble_eq_true rfl⟩ hPD hS 6 6 rfl rfl rfl [6, 7, 8, 9, 10, 11] [0, 1, 2, 3, 4, 5] [0, 1, 2, 3, 4, 5, 6, 7, 8, 9, 10, 11] (wr := (wX9 G h0 a0 wk f0 A0 ++ (wX1 G (a0 1) a1 f1 A1))) (wN := (wX9 G h0 a0 wk f0 A0 ++ (wX1 G (a0 1) a1 f1 A1 ++ (wX6 G (a0 2) a2 f2 A2)))) rfl rfl rfl rfl rfl hl.1 (Nat.le_of_ble_eq_true rfl) dX9_canBeTried_74 (fun H locs hPD hS => ?_)
          refine lv_if_eq (tgt := 84) hx hb dX9_canBeTried_77 (by decide) (fun cc1 => ?_) (fun cc1 => ?_)
          · have h := (if_pos cc1).symm.trans h
            refine lv_iconst (v := 0) hx hb dX9_canBeTried_84 (by decide) ?_
            obtain rfl := Option.some.inj h
            exact eZ C0 hPD.1 hPD.2 hS rfl rfl dX9_canBeTried_85
          · have h := (if_neg cc1).symm.trans h
            refine lv_iconst (v := 1) hx hb dX9_canBeTried_80 (by decide) ?_
            refine lv_goto (tgt := 85) hx hb dX9_canBeTried_81 (by decide) ?_
            obtain rfl := Option.some.inj h
            exact eZ C0 hPD.1 hPD.2 hS rfl rfl dX9_canBeTried_85
    · have h := (if_neg cc1).symm.trans h
      refine lv_aload_n hx hb dX9_canBeTried_34 rfl (lv_at hl 0 rfl) ?_
      refine va_get (D := G.1) (ci := 9) (v := .ref (a0 2)) (C := RX9) (T := TX9) (N := 15) hx hb hts inlX9 hown hK hPD.1 0 rfl rfl 2 (by decide) (hts _ gw_353) (fun _ h9 => h9) rfl dX9_canBeTried_35 ?_
      refine lv_iload_n hx hb dX9_canBeTried_38 rfl (lv_at hl 1 rfl) ?_
      refine lv_bipush (v := 20) hx hb dX9_canBeTried_39 (by decide) ?_
      refine lv_isub hx hb dX9_canBeTried_41 ?_
      refine kVI (As := [.int (p1 - 20)]) (rest := []) C0 (kt_X6_isTold l G (a0 2) a2 f2 A2 (p1 - 20)) gi_V_X9_195_X6_isTold (n := 1) rfl (by decide +kernel) rfl ⟨rfl, rfl, Nat.le_of_ble_eq_true rfl, Nat.le_of_ble_eq_true rfl⟩ hPD hS 6 6 rfl rfl rfl [6, 7, 8, 9, 10, 11] [0, 1, 2, 3, 4, 5] [0, 1, 2, 3, 4, 5, 6, 7, 8, 9, 10, 11] (wr := (wX9 G h0 a0 wk f0 A0 ++ (wX1 G (a0 1) a1 f1 A1))) (wN := (wX9 G h0 a0 wk f0 A0 ++ (wX1 G (a0 1) a1 f1 A1 ++ (wX6 G (a0 2) a2 f2 A2)))) rfl rfl rfl rfl rfl hl.1 (Nat.le_of_ble_eq_true rfl) dX9_canBeTried_42 (fun H locs hPD hS => ?_)
      obtain ⟨hz, h⟩ := ob h
      obtain rfl := Option.some.inj h
      exact eZ C0 hPD.1 hPD.2 hS rfl (nbool (Classical.not_not.mp hz)) dX9_canBeTried_45
  · have h := (if_neg cc1).symm.trans h
    refine lv_aload_n hx hb dX9_canBeTried_11 rfl (lv_at hl 0 rfl) ?_
    refine va_get (D := G.1) (ci := 9) (v := .ref (a0 1)) (C := RX9) (T := TX9) (N := 15) hx hb hts inlX9 hown hK hPD.1 0 rfl rfl 1 (by decide) (hts _ gw_351) (fun _ h9 => h9) rfl dX9_canBeTried_12 ?_
    refine lv_iload_n hx hb dX9_canBeTried_15 rfl (lv_at hl 1 rfl) ?_
    refine lv_bipush (v := 30) hx hb dX9_canBeTried_16 (by decide) ?_
    refine lv_isub hx hb dX9_canBeTried_18 ?_
    refine kVI (As := [.int (p1 - 30)]) (rest := []) C0 (kt_X1_isTold l G (a0 1) a1 f1 A1 (p1 - 30)) gi_V_X9_108_X1_isTold (n := 1) rfl (by decide +kernel) rfl ⟨rfl, rfl, Nat.le_of_ble_eq_true rfl, Nat.le_of_ble_eq_true rfl⟩ hPD hS 2 1 rfl rfl rfl [2, 3, 4, 5] [0, 1, 6, 7, 8, 9, 10, 11] [0, 1, 8, 9, 10, 11, 2, 3, 4, 5, 6, 7] (wr := (wX9 G h0 a0 wk f0 A0 ++ (wX6 G (a0 2) a2 f2 A2))) (wN := (wX9 G h0 a0 wk f0 A0 ++ (wX1 G (a0 1) a1 f1 A1 ++ (wX6 G (a0 2) a2 f2 A2)))) rfl rfl rfl rfl rfl hl.1 (Nat.le_of_ble_eq_true rfl) dX9_canBeTried_19 (fun H locs hPD hS => ?_)
    obtain ⟨hz, h⟩ := ob h
    obtain rfl := Option.some.inj h
    exact eZ C0 hPD.1 hPD.2 hS rfl (nbool (Classical.not_not.mp hz)) dX9_canBeTried_22
abbrev rmX9_tried : Room := { frames := 7, cells := 0, slots := 0, locals := 159 }
set_option maxRecDepth 100000 in
set_option maxHeartbeats 4000000 in
theorem ww_f9_tried_b81  (C0 : Cx cX9_tried 6 (some .int) RX9 p s m args meth c G DA) {h0 : Nat} {a0 : Nat → Nat} {wk : Option Nat} {a1 : Nat → Nat} {a2 : Nat → Nat} {a3 : Nat → Nat} {g4 : Nat → Nat} {aB4 : Nat → Nat → Nat} {a5 : Nat → Nat} {a6 : Nat → Nat} {f0 : Nat → Int32} {A0 : Nat → Nat → Int32} {f1 : Nat → Int32} {A1 : Nat → Nat → Int32} {f2 : Nat → Int32} {A2 : Nat → Nat → Int32} {fB4 : Nat → Nat → Int32} {AB4 : Nat → Nat → Nat → Int32} {p1 : Int32} {p2 : Int32}   {res : Int32 × (Nat → Nat → Int32) × (Nat → Int32) × (Nat → Nat → Int32) × (Nat → Int32) × (Nat → Nat → Int32) × (Nat → Int32)}  : ∀ (A3 : Nat → Nat → Int32) (f3 : Nat → Int32) (A5 : Nat → Nat → Int32) (f5 : Nat → Int32) (A6 : Nat → Nat → Int32) (f6 : Nat → Int32) (l3 : Int32) (l4 : Int32), f9_tried_b81 f0 A0 f1 A1 f2 A2 fB4 AB4 p1 p2  A3 f3 A5 f5 A6 f6 l3 l4 = some res → ∀ (H : Heap) (locs : List Loc) (ls : Array Slot), WD G DA (wX9 G h0 a0 wk f0 A0 ++ (wX1 G (a0 1) a1 f1 A1 ++ (wX6 G (a0 2) a2 f2 A2 ++ (wX6 G (a0 3) a3 f3 A3 ++ (wB G (a0 5) g4 aB4 fB4 AB4 ++ (wX5 G (a0 6) a5 f5 A5 ++ (wX2 G (a0 11) a6 f6 A6))))))) H → va_S DA s.heap H locs → lv_has ls 6 [(0, .ref h0), (1, .int p1), (2, .int p2), (3, .int l3), (4, .int l4)] → W p l e rmX9_tried s m args below meth c H locs 0 0 (MQ below (QI G DA res.1 (wX9 G h0 a0 wk f0 A0 ++ (wX1 G (a0 1) a1 f1 A1 ++ (wX6 G (a0 2) a2 f2 A2 ++ (wX6 G (a0 3) a3 res.2.2.1 res.2.1 ++ (wB G (a0 5) g4 aB4 fB4 AB4 ++ (wX5 G (a0 6) a5 res.2.2.2.2.1 res.2.2.2.1 ++ (wX2 G (a0 11) a6 res.2.2.2.2.2.2 res.2.2.2.2.2.1)))))))) args s 0 0 DA) (F0 m 81 ls []) := by
  obtain ⟨hx, hb, hml, hown, hts⟩ := C0.1
  have hK := C0.2.2.2.1
  intro A3 f3 A5 f5 A6 f6 l3 l4 h _ _ _ hPD hS hl
  unfold f9_tried_b81 at h
  refine lv_iload_n hx hb dX9_tried_81 rfl (lv_at hl 2 rfl) ?_
  refine lv_if_ne (tgt := 87) hx hb dX9_tried_82 (by decide) (fun cc1 => ?_) (fun cc1 => ?_)
  · have h := (if_neg cc1).symm.trans h
    refine lv_iload_n hx hb dX9_tried_87 rfl (lv_at hl 2 rfl) ?_
    refine lv_iconst (v := 1) hx hb dX9_tried_88 (by decide) ?_
    refine lv_icmp_ne (tgt := 95) hx hb dX9_tried_89 (by decide) (fun cc1 => ?_) (fun cc1 => ?_)
    · have h := (if_neg cc1).symm.trans h
      refine lv_iload_n hx hb dX9_tried_95 rfl (lv_at hl 2 rfl) ?_
      refine lv_iconst (v := 2) hx hb dX9_tried_96 (by decide) ?_
      refine lv_icmp_ne (tgt := 116) hx hb dX9_tried_97 (by decide) (fun cc1 => ?_) (fun cc1 => ?_)
      · have h := (if_neg cc1).symm.trans h
        refine lv_iload_n hx hb dX9_tried_116 rfl (lv_at hl 2 rfl) ?_
        refine lv_bipush (v := 20) hx hb dX9_tried_117 (by decide) ?_
        refine lv_icmp_ge (tgt := 137) hx hb dX9_tried_119 (by decide) (fun cc1 => ?_) (fun cc1 => ?_)
        · have h := (if_pos cc1).symm.trans h
          refine lv_iload_n hx hb dX9_tried_137 rfl (lv_at hl 2 rfl) ?_
          refine lv_bipush (v := 30) hx hb dX9_tried_138 (by decide) ?_
          refine lv_icmp_ge (tgt := 160) hx hb dX9_tried_140 (by decide) (fun cc1 => ?_) (fun cc1 => ?_)
          · have h := (if_pos cc1).symm.trans h
            refine lv_aload_n hx hb dX9_tried_160 rfl (lv_at hl 0 rfl) ?_
            refine va_get (D := G.1) (ci := 9) (v := .ref (a0 3)) (C := RX9) (T := TX9) (N := 15) hx hb hts inlX9 hown hK hPD.1 0 rfl rfl 3 (by decide) (hts _ gw_424) (fun _ h9 => h9) rfl dX9_tried_161 ?_
            refine va_get (D := G.1) (ci := 6) (v := .ref (a3 2)) (C := RX6) (T := TX6) (N := 10) hx hb hts inlX6 hown hK hPD.1 12 rfl rfl 2 (by decide) (hts _ gw_429) (fun _ h9 => h9) rfl dX9_tried_164 ?_
            refine lv_iload_n hx hb dX9_tried_167 rfl (lv_at hl 2 rfl) ?_
            refine lv_bipush (v := 30) hx hb dX9_tried_168 (by decide) ?_
            refine lv_isub hx hb dX9_tried_170 ?_
            refine kSI (As := [.ref (a3 2), .int (p2 - 30)]) (rest := []) C0 (kt_X9_at l G (a3 2) 16 (A3 2) (p2 - 30) (by decide)) gi_S_X9_188_X9_at (n := 2) rfl (by decide +kernel) ⟨rfl, rfl, Nat.le_of_ble_eq_true rfl, Nat.le_of_ble_eq_true rfl⟩ hPD hS [15] [0, 1, 2, 3, 4, 5, 6, 7, 8, 9, 10, 11, 12, 13, 14, 16, 17, 18, 19, 20, 21, 22, 23, 24, 25, 26, 27, 28, 29, 30, 31, 32, 33, 34, 35, 36, 37, 38, 39, 40, 41, 42, 43, 44, 45] [0, 1, 2, 3, 4, 5, 6, 7, 8, 9, 10, 11, 12, 13, 14, 45, 15, 16, 17, 18, 19, 20, 21, 22, 23, 24, 25, 26, 27, 28, 29, 30, 31, 32, 33, 34, 35, 36, 37, 38, 39, 40, 41, 42, 43, 44] (wr := pick (wX9 G h0 a0 wk f0 A0 ++ (wX1 G (a0 1) a1 f1 A1 ++ (wX6 G (a0 2) a2 f2 A2 ++ (wX6 G (a0 3) a3 f3 A3 ++ (wB G (a0 5) g4 aB4 fB4 AB4 ++ (wX5 G (a0 6) a5 f5 A5 ++ (wX2 G (a0 11) a6 f6 A6))))))) [0, 1, 2, 3, 4, 5, 6, 7, 8, 9, 10, 11, 12, 13, 14, 16, 17, 18, 19, 20, 21, 22, 23, 24, 25, 26, 27, 28, 29, 30, 31, 32, 33, 34, 35, 36, 37, 38, 39, 40, 41, 42, 43, 44, 45]) (wN := (wX9 G h0 a0 wk f0 A0 ++ (wX1 G (a0 1) a1 f1 A1 ++ (wX6 G (a0 2) a2 f2 A2 ++ (wX6 G (a0 3) a3 f3 A3 ++ (wB G (a0 5) g4 aB4 fB4 AB4 ++ (wX5 G (a0 6) a5 f5 A5 ++ (wX2 G (a0 11) a6 f6 A6)))))))) rfl rfl rfl rfl rfl hl.1 (Nat.le_of_ble_eq_true rfl) dX9_tried_171 (fun H locs hPD hS => ?_)
            obtain rfl := Option.some.inj h
            exact eI C0 hPD.1 hPD.2 hS rfl dX9_tried_174
          · have h := (if_neg cc1).symm.trans h
            refine lv_aload_n hx hb dX9_tried_143 rfl (lv_at hl 0 rfl) ?_
            refine va_get (D := G.1) (ci := 9) (v := .ref (a0 3)) (C := RX9) (T := TX9) (N := 15) hx hb hts inlX9 hown hK hPD.1 0 rfl rfl 3 (by decide) (hts _ gw_424) (fun _ h9 => h9) rfl dX9_tried_144 ?_
            refine va_get (D := G.1) (ci := 6) (v := .ref (a3 4)) (C := RX6) (T := TX6) (N := 10) hx hb hts inlX6 hown hK hPD.1 12 rfl rfl 4 (by decide) (hts _ gw_360) (fun _ h9 => h9) rfl dX9_tried_147 ?_
            refine lv_iload_n hx hb dX9_tried_150 rfl (lv_at hl 2 rfl) ?_
            refine lv_bipush (v := 20) hx hb dX9_tried_151 (by decide) ?_
            refine lv_isub hx hb dX9_tried_153 ?_
            refine kSI (As := [.ref (a3 4), .int (p2 - 20)]) (rest := []) C0 (kt_X9_at l G (a3 4) 8 (A3 4) (p2 - 20) (by decide)) gi_S_X9_188_X9_at (n := 2) rfl (by decide +kernel) ⟨rfl, rfl, Nat.le_of_ble_eq_true rfl, Nat.le_of_ble_eq_true rfl⟩ hPD hS [17] [0, 1, 2, 3, 4, 5, 6, 7, 8, 9, 10, 11, 12, 13, 14, 15, 16, 18, 19, 20, 21, 22, 23, 24, 25, 26, 27, 28, 29, 30, 31, 32, 33, 34, 35, 36, 37, 38, 39, 40, 41, 42, 43, 44, 45] [0, 1, 2, 3, 4, 5, 6, 7, 8, 9, 10, 11, 12, 13, 14, 15, 16, 45, 17, 18, 19, 20, 21, 22, 23, 24, 25, 26, 27, 28, 29, 30, 31, 32, 33, 34, 35, 36, 37, 38, 39, 40, 41, 42, 43, 44] (wr := pick (wX9 G h0 a0 wk f0 A0 ++ (wX1 G (a0 1) a1 f1 A1 ++ (wX6 G (a0 2) a2 f2 A2 ++ (wX6 G (a0 3) a3 f3 A3 ++ (wB G (a0 5) g4 aB4 fB4 AB4 ++ (wX5 G (a0 6) a5 f5 A5 ++ (wX2 G (a0 11) a6 f6 A6))))))) [0, 1, 2, 3, 4, 5, 6, 7, 8, 9, 10, 11, 12, 13, 14, 15, 16, 18, 19, 20, 21, 22, 23, 24, 25, 26, 27, 28, 29, 30, 31, 32, 33, 34, 35, 36, 37, 38, 39, 40, 41, 42, 43, 44, 45]) (wN := (wX9 G h0 a0 wk f0 A0 ++ (wX1 G (a0 1) a1 f1 A1 ++ (wX6 G (a0 2) a2 f2 A2 ++ (wX6 G (a0 3) a3 f3 A3 ++ (wB G (a0 5) g4 aB4 fB4 AB4 ++ (wX5 G (a0 6) a5 f5 A5 ++ (wX2 G (a0 11) a6 f6 A6)))))))) rfl rfl rfl rfl rfl hl.1 (Nat.le_of_ble_eq_true rfl) dX9_tried_154 (fun H locs hPD hS => ?_)
            refine lv_goto (tgt := 174) hx hb dX9_tried_157 (by decide) ?_
            obtain rfl := Option.some.inj h
            exact eI C0 hPD.1 hPD.2 hS rfl dX9_tried_174
        · have h := (if_neg cc1).symm.trans h
          refine lv_aload_n hx hb dX9_tried_122 rfl (lv_at hl 0 rfl) ?_
          refine va_get (D := G.1) (ci := 9) (v := .ref (a0 3)) (C := RX9) (T := TX9) (N := 15) hx hb hts inlX9 hown hK hPD.1 0 rfl rfl 3 (by decide) (hts _ gw_424) (fun _ h9 => h9) rfl dX9_tried_123 ?_
          refine va_get (D := G.1) (ci := 6) (v := .ref (a3 3)) (C := RX6) (T := TX6) (N := 10) hx hb hts inlX6 hown hK hPD.1 12 rfl rfl 3 (by decide) (hts _ gw_359) (fun _ h9 => h9) rfl dX9_tried_126 ?_
          refine lv_iload_n hx hb dX9_tried_129 rfl (lv_at hl 2 rfl) ?_
          refine lv_bipush (v := 10) hx hb dX9_tried_130 (by decide) ?_
          refine lv_isub hx hb dX9_tried_132 ?_
          refine kSI (As := [.ref (a3 3), .int (p2 - 10)]) (rest := []) C0 (kt_X9_at l G (a3 3) 8 (A3 3) (p2 - 10) (by decide)) gi_S_X9_188_X9_at (n := 2) rfl (by decide +kernel) ⟨rfl, rfl, Nat.le_of_ble_eq_true rfl, Nat.le_of_ble_eq_true rfl⟩ hPD hS [16] [0, 1, 2, 3, 4, 5, 6, 7, 8, 9, 10, 11, 12, 13, 14, 15, 17, 18, 19, 20, 21, 22, 23, 24, 25, 26, 27, 28, 29, 30, 31, 32, 33, 34, 35, 36, 37, 38, 39, 40, 41, 42, 43, 44, 45] [0, 1, 2, 3, 4, 5, 6, 7, 8, 9, 10, 11, 12, 13, 14, 15, 45, 16, 17, 18, 19, 20, 21, 22, 23, 24, 25, 26, 27, 28, 29, 30, 31, 32, 33, 34, 35, 36, 37, 38, 39, 40, 41, 42, 43, 44] (wr := pick (wX9 G h0 a0 wk f0 A0 ++ (wX1 G (a0 1) a1 f1 A1 ++ (wX6 G (a0 2) a2 f2 A2 ++ (wX6 G (a0 3) a3 f3 A3 ++ (wB G (a0 5) g4 aB4 fB4 AB4 ++ (wX5 G (a0 6) a5 f5 A5 ++ (wX2 G (a0 11) a6 f6 A6))))))) [0, 1, 2, 3, 4, 5, 6, 7, 8, 9, 10, 11, 12, 13, 14, 15, 17, 18, 19, 20, 21, 22, 23, 24, 25, 26, 27, 28, 29, 30, 31, 32, 33, 34, 35, 36, 37, 38, 39, 40, 41, 42, 43, 44, 45]) (wN := (wX9 G h0 a0 wk f0 A0 ++ (wX1 G (a0 1) a1 f1 A1 ++ (wX6 G (a0 2) a2 f2 A2 ++ (wX6 G (a0 3) a3 f3 A3 ++ (wB G (a0 5) g4 aB4 fB4 AB4 ++ (wX5 G (a0 6) a5 f5 A5 ++ (wX2 G (a0 11) a6 f6 A6)))))))) rfl rfl rfl rfl rfl hl.1 (Nat.le_of_ble_eq_true rfl) dX9_tried_133 (fun H locs hPD hS => ?_)
          obtain rfl := Option.some.inj h
          exact eI C0 hPD.1 hPD.2 hS rfl dX9_tried_136
      · have h := (if_pos cc1).symm.trans h
        refine lv_aload_n hx hb dX9_tried_100 rfl (lv_at hl 0 rfl) ?_
        refine va_get (D := G.1) (ci := 9) (v := .ref (a0 3)) (C := RX9) (T := TX9) (N := 15) hx hb hts inlX9 hown hK hPD.1 0 rfl rfl 3 (by decide) (hts _ gw_424) (fun _ h9 => h9) rfl dX9_tried_101 ?_
        refine va_get (D := G.1) (ci := 6) (v := .int (f3 6)) (C := RX6) (T := TX6) (N := 10) hx hb hts inlX6 hown hK hPD.1 12 rfl rfl 6 (by decide) (hts _ gw_431) (fun _ h9 => h9) rfl dX9_tried_104 ?_
        refine lv_aload_n hx hb dX9_tried_107 rfl (lv_at hl 0 rfl) ?_
        refine va_get (D := G.1) (ci := 9) (v := .ref (a0 2)) (C := RX9) (T := TX9) (N := 15) hx hb hts inlX9 hown hK hPD.1 0 rfl rfl 2 (by decide) (hts _ gw_353) (fun _ h9 => h9) rfl dX9_tried_108 ?_
        refine va_get (D := G.1) (ci := 6) (v := .int (f2 6)) (C := RX6) (T := TX6) (N := 10) hx hb hts inlX6 hown hK hPD.1 6 rfl rfl 6 (by decide) (hts _ gw_431) (fun _ h9 => h9) rfl dX9_tried_111 ?_
        refine lv_isub hx hb dX9_tried_114 ?_
        obtain rfl := Option.some.inj h
        exact eI C0 hPD.1 hPD.2 hS rfl dX9_tried_115
    · have h := (if_pos cc1).symm.trans h
      refine lv_iload hx hb dX9_tried_92 (lv_at hl 4 rfl) ?_
      obtain rfl := Option.some.inj h
      exact eI C0 hPD.1 hPD.2 hS rfl dX9_tried_94
  · have h := (if_pos cc1).symm.trans h
    refine lv_iload_n hx hb dX9_tried_85 rfl (lv_at hl 3 rfl) ?_
    obtain rfl := Option.some.inj h
    exact eI C0 hPD.1 hPD.2 hS rfl dX9_tried_86
set_option maxRecDepth 100000 in
set_option maxHeartbeats 4000000 in
theorem ww_f9_tried_b36  (C0 : Cx cX9_tried 6 (some .int) RX9 p s m args meth c G DA) {h0 : Nat} {a0 : Nat → Nat} {wk : Option Nat} {a1 : Nat → Nat} {a2 : Nat → Nat} {a3 : Nat → Nat} {g4 : Nat → Nat} {aB4 : Nat → Nat → Nat} {a5 : Nat → Nat} {a6 : Nat → Nat} {f0 : Nat → Int32} {A0 : Nat → Nat → Int32} {f1 : Nat → Int32} {A1 : Nat → Nat → Int32} {f2 : Nat → Int32} {A2 : Nat → Nat → Int32} {fB4 : Nat → Nat → Int32} {AB4 : Nat → Nat → Nat → Int32} {p1 : Int32} {p2 : Int32}  {k36 : (Nat → Nat → Int32) → (Nat → Int32) → (Nat → Nat → Int32) → (Nat → Int32) → (Nat → Nat → Int32) → (Nat → Int32) → Int32 → Int32 → Int32 → Option (Int32 × (Nat → Nat → Int32) × (Nat → Int32) × (Nat → Nat → Int32) × (Nat → Int32) × (Nat → Nat → Int32) × (Nat → Int32))} {res : Int32 × (Nat → Nat → Int32) × (Nat → Int32) × (Nat → Nat → Int32) × (Nat → Int32) × (Nat → Nat → Int32) × (Nat → Int32)}  (hk36 : ∀ (A3 : Nat → Nat → Int32) (f3 : Nat → Int32) (A5 : Nat → Nat → Int32) (f5 : Nat → Int32) (A6 : Nat → Nat → Int32) (f6 : Nat → Int32) (l3 : Int32) (l4 : Int32) (l5 : Int32), k36 A3 f3 A5 f5 A6 f6 l3 l4 l5 = some res → ∀ (H : Heap) (locs : List Loc) (ls : Array Slot), WD G DA (wX9 G h0 a0 wk f0 A0 ++ (wX1 G (a0 1) a1 f1 A1 ++ (wX6 G (a0 2) a2 f2 A2 ++ (wX6 G (a0 3) a3 f3 A3 ++ (wB G (a0 5) g4 aB4 fB4 AB4 ++ (wX5 G (a0 6) a5 f5 A5 ++ (wX2 G (a0 11) a6 f6 A6))))))) H → va_S DA s.heap H locs → lv_has ls 6 [(0, .ref h0), (1, .int p1), (2, .int p2), (3, .int l3), (4, .int l4), (5, .int l5)] → W p l e rmX9_tried s m args below meth c H locs 0 0 (MQ below (QI G DA res.1 (wX9 G h0 a0 wk f0 A0 ++ (wX1 G (a0 1) a1 f1 A1 ++ (wX6 G (a0 2) a2 f2 A2 ++ (wX6 G (a0 3) a3 res.2.2.1 res.2.1 ++ (wB G (a0 5) g4 aB4 fB4 AB4 ++ (wX5 G (a0 6) a5 res.2.2.2.2.1 res.2.2.2.1 ++ (wX2 G (a0 11) a6 res.2.2.2.2.2.2 res.2.2.2.2.2.1)))))))) args s 0 0 DA) (F0 m 36 ls [])) : ∀ (A3 : Nat → Nat → Int32) (f3 : Nat → Int32) (A5 : Nat → Nat → Int32) (f5 : Nat → Int32) (A6 : Nat → Nat → Int32) (f6 : Nat → Int32) (l3 : Int32) (l4 : Int32) (l5 : Int32), f9_tried_b36 f0 A0 f1 A1 f2 A2 fB4 AB4 p1 p2  k36 A3 f3 A5 f5 A6 f6 l3 l4 l5 = some res → ∀ (H : Heap) (locs : List Loc) (ls : Array Slot), WD G DA (wX9 G h0 a0 wk f0 A0 ++ (wX1 G (a0 1) a1 f1 A1 ++ (wX6 G (a0 2) a2 f2 A2 ++ (wX6 G (a0 3) a3 f3 A3 ++ (wB G (a0 5) g4 aB4 fB4 AB4 ++ (wX5 G (a0 6) a5 f5 A5 ++ (wX2 G (a0 11) a6 f6 A6))))))) H → va_S DA s.heap H locs → lv_has ls 6 [(0, .ref h0), (1, .int p1), (2, .int p2), (3, .int l3), (4, .int l4), (5, .int l5)] → W p l e rmX9_tried s m args below meth c H locs 0 0 (MQ below (QI G DA res.1 (wX9 G h0 a0 wk f0 A0 ++ (wX1 G (a0 1) a1 f1 A1 ++ (wX6 G (a0 2) a2 f2 A2 ++ (wX6 G (a0 3) a3 res.2.2.1 res.2.1 ++ (wB G (a0 5) g4 aB4 fB4 AB4 ++ (wX5 G (a0 6) a5 res.2.2.2.2.1 res.2.2.2.1 ++ (wX2 G (a0 11) a6 res.2.2.2.2.2.2 res.2.2.2.2.2.1)))))))) args s 0 0 DA) (F0 m 36 ls []) := by
  obtain ⟨hx, hb, hml, hown, hts⟩ := C0.1
  have hK := C0.2.2.2.1
  intro A3 f3 A5 f5 A6 f6 l3 l4 l5 h _ _ _ hPD hS hl
  unfold f9_tried_b36 at h
  refine lv_iload hx hb dX9_tried_36 (lv_at hl 5 rfl) ?_
  refine lv_iload_n hx hb dX9_tried_38 rfl (lv_at hl 1 rfl) ?_
  refine lv_icmp_ge (tgt := 81) hx hb dX9_tried_39 (by decide) (fun cc1 => ?_) (fun cc1 => ?_)
  · have h := (if_pos cc1).symm.trans h
    exact ww_f9_tried_b81 C0 A3 f3 A5 f5 A6 f6 l3 l4 h _ _ _ hPD hS (lv_sub hl [0, 1, 2, 3, 4] rfl)
  · have h := (if_neg cc1).symm.trans h
    refine lv_aload_n hx hb dX9_tried_42 rfl (lv_at hl 0 rfl) ?_
    refine lv_aload_n hx hb dX9_tried_43 rfl (lv_at hl 0 rfl) ?_
    refine va_get (D := G.1) (ci := 9) (v := .ref (a0 3)) (C := RX9) (T := TX9) (N := 15) hx hb hts inlX9 hown hK hPD.1 0 rfl rfl 3 (by decide) (hts _ gw_424) (fun _ h9 => h9) rfl dX9_tried_44 ?_
    obtain ⟨q_4, hq_4, h⟩ := ob2 h
    refine kVI (As := [.ref (a0 3)]) (rest := []) C0 (kt_X9_passes l G h0 a0 wk a1 g4 aB4 a5 a6 (a0 3) a3 f0 A0 f1 A1 fB4 AB4 f5 A5 f6 A6 f3 A3 hq_4) gi_V_X9_168_X9_passes (n := 1) rfl (by decide +kernel) rfl ⟨rfl, rfl, Nat.le_of_ble_eq_true rfl, Nat.le_of_ble_eq_true rfl⟩ hPD hS 0 9 rfl rfl rfl [0, 1, 2, 3, 4, 5, 18, 19, 20, 21, 22, 23, 24, 25, 26, 27, 28, 29, 30, 31, 32, 33, 34, 35, 36, 37, 38, 39, 40, 41, 42, 43, 44, 45, 12, 13, 14, 15, 16, 17] [6, 7, 8, 9, 10, 11] [6, 7, 8, 9, 10, 11, 0, 1, 2, 3, 4, 5, 40, 41, 42, 43, 44, 45, 12, 13, 14, 15, 16, 17, 18, 19, 20, 21, 22, 23, 24, 25, 26, 27, 28, 29, 30, 31, 32, 33, 34, 35, 36, 37, 38, 39] (wr := (wX6 G (a0 2) a2 f2 A2)) (wN := (wX9 G h0 a0 wk f0 A0 ++ (wX1 G (a0 1) a1 f1 A1 ++ (wX6 G (a0 2) a2 f2 A2 ++ (wX6 G (a0 3) a3 q_4.2.2.2.2.2.2 q_4.2.2.2.2.2.1 ++ (wB G (a0 5) g4 aB4 fB4 AB4 ++ (wX5 G (a0 6) a5 q_4.2.2.1 q_4.2.1 ++ (wX2 G (a0 11) a6 q_4.2.2.2.2.1 q_4.2.2.2.1)))))))) rfl rfl rfl rfl rfl hl.1 (Nat.le_of_ble_eq_true rfl) dX9_tried_47 (fun H locs hPD hS => ?_)
    refine lv_if_eq (tgt := 81) hx hb dX9_tried_50 (by decide) (fun cc1 => ?_) (fun cc1 => ?_)
    · have h := (if_pos cc1).symm.trans h
      exact ww_f9_tried_b81 C0 q_4.2.2.2.2.2.1 q_4.2.2.2.2.2.2 q_4.2.1 q_4.2.2.1 q_4.2.2.2.1 q_4.2.2.2.2.1 l3 l4 h _ _ _ hPD hS (lv_sub hl [0, 1, 2, 3, 4] rfl)
    · have h := (if_neg cc1).symm.trans h
      refine lv_iload_n hx hb dX9_tried_53 rfl (lv_at hl 3 rfl) ?_
      refine lv_aload_n hx hb dX9_tried_54 rfl (lv_at hl 0 rfl) ?_
      refine va_get (D := G.1) (ci := 9) (v := .ref (a0 6)) (C := RX9) (T := TX9) (N := 15) hx hb hts inlX9 hown hK hPD.1 0 rfl rfl 6 (by decide) (hts _ gw_406) (fun _ h9 => h9) rfl dX9_tried_55 ?_
      refine va_get (D := G.1) (ci := 5) (v := .int (q_4.2.2.1 2)) (C := RX5) (T := TX5) (N := 4) hx hb hts inlX5 hown hK hPD.1 35 rfl rfl 2 (by decide) (hts _ gw_418) (fun _ h9 => h9) rfl dX9_tried_58 ?_
      refine lv_iadd hx hb dX9_tried_61 ?_
      refine lv_istore_n (lv' := [(3, .int (l3 + (q_4.2.2.1 2))), (0, .ref h0), (1, .int p1), (2, .int p2), (4, .int l4), (5, .int l5)]) hx hb dX9_tried_62 rfl hl (by decide) rfl (fun ls hl => ?_)
      refine lv_iload hx hb dX9_tried_63 (lv_at hl 4 rfl) ?_
      refine lv_aload_n hx hb dX9_tried_65 rfl (lv_at hl 1 rfl) ?_
      refine va_get (D := G.1) (ci := 9) (v := .ref (a0 6)) (C := RX9) (T := TX9) (N := 15) hx hb hts inlX9 hown hK hPD.1 0 rfl rfl 6 (by decide) (hts _ gw_406) (fun _ h9 => h9) rfl dX9_tried_66 ?_
      refine va_get (D := G.1) (ci := 5) (v := .int (q_4.2.2.1 3)) (C := RX5) (T := TX5) (N := 4) hx hb hts inlX5 hown hK hPD.1 35 rfl rfl 3 (by decide) (hts _ gw_432) (fun _ h9 => h9) rfl dX9_tried_69 ?_
      refine lv_iadd hx hb dX9_tried_72 ?_
      refine lv_istore (lv' := [(4, .int (l4 + (q_4.2.2.1 3))), (3, .int (l3 + (q_4.2.2.1 2))), (0, .ref h0), (1, .int p1), (2, .int p2), (5, .int l5)]) hx hb dX9_tried_73 hl (by decide) rfl (fun ls hl => ?_)
      refine lv_iinc (v := l5 + 1) (lv' := [(5, .int (l5 + 1)), (4, .int (l4 + (q_4.2.2.1 3))), (3, .int (l3 + (q_4.2.2.1 2))), (0, .ref h0), (1, .int p1), (2, .int p2)]) hx hb dX9_tried_75 hl (k := 5) rfl rfl (by decide) rfl (fun ls hl => ?_)
      refine lv_goto (tgt := 36) hx hb dX9_tried_78 (by decide) ?_
      exact hk36 q_4.2.2.2.2.2.1 q_4.2.2.2.2.2.2 q_4.2.1 q_4.2.2.1 q_4.2.2.2.1 q_4.2.2.2.2.1 (l3 + (q_4.2.2.1 2)) (l4 + (q_4.2.2.1 3)) (l5 + 1) h _ _ _ hPD hS (lv_sub hl [3, 4, 5, 2, 1, 0] rfl)
set_option maxRecDepth 100000 in
set_option maxHeartbeats 4000000 in
theorem ww_f9_tried_l36  (C0 : Cx cX9_tried 6 (some .int) RX9 p s m args meth c G DA) {h0 : Nat} {a0 : Nat → Nat} {wk : Option Nat} {a1 : Nat → Nat} {a2 : Nat → Nat} {a3 : Nat → Nat} {g4 : Nat → Nat} {aB4 : Nat → Nat → Nat} {a5 : Nat → Nat} {a6 : Nat → Nat} {f0 : Nat → Int32} {A0 : Nat → Nat → Int32} {f1 : Nat → Int32} {A1 : Nat → Nat → Int32} {f2 : Nat → Int32} {A2 : Nat → Nat → Int32} {fB4 : Nat → Nat → Int32} {AB4 : Nat → Nat → Nat → Int32} {p1 : Int32} {p2 : Int32}   {res : Int32 × (Nat → Nat → Int32) × (Nat → Int32) × (Nat → Nat → Int32) × (Nat → Int32) × (Nat → Nat → Int32) × (Nat → Int32)}  : ∀ (n : Nat) (A3 : Nat → Nat → Int32) (f3 : Nat → Int32) (A5 : Nat → Nat → Int32) (f5 : Nat → Int32) (A6 : Nat → Nat → Int32) (f6 : Nat → Int32) (l3 : Int32) (l4 : Int32) (l5 : Int32), f9_tried_l36 f0 A0 f1 A1 f2 A2 fB4 AB4 p1 p2  n A3 f3 A5 f5 A6 f6 l3 l4 l5 = some res → ∀ (H : Heap) (locs : List Loc) (ls : Array Slot), WD G DA (wX9 G h0 a0 wk f0 A0 ++ (wX1 G (a0 1) a1 f1 A1 ++ (wX6 G (a0 2) a2 f2 A2 ++ (wX6 G (a0 3) a3 f3 A3 ++ (wB G (a0 5) g4 aB4 fB4 AB4 ++ (wX5 G (a0 6) a5 f5 A5 ++ (wX2 G (a0 11) a6 f6 A6))))))) H → va_S DA s.heap H locs → lv_has ls 6 [(0, .ref h0), (1, .int p1), (2, .int p2), (3, .int l3), (4, .int l4), (5, .int l5)] → W p l e rmX9_tried s m args below meth c H locs 0 0 (MQ below (QI G DA res.1 (wX9 G h0 a0 wk f0 A0 ++ (wX1 G (a0 1) a1 f1 A1 ++ (wX6 G (a0 2) a2 f2 A2 ++ (wX6 G (a0 3) a3 res.2.2.1 res.2.1 ++ (wB G (a0 5) g4 aB4 fB4 AB4 ++ (wX5 G (a0 6) a5 res.2.2.2.2.1 res.2.2.2.1 ++ (wX2 G (a0 11) a6 res.2.2.2.2.2.2 res.2.2.2.2.2.1)))))))) args s 0 0 DA) (F0 m 36 ls []) := by
  intro n
  induction n with
  | zero => intro A3 f3 A5 f5 A6 f6 l3 l4 l5 h; cases h
  | succ n ih => intro A3 f3 A5 f5 A6 f6 l3 l4 l5 h; exact ww_f9_tried_b36 C0  ih A3 f3 A5 f5 A6 f6 l3 l4 l5 h
set_option maxRecDepth 100000 in
set_option maxHeartbeats 4000000 in
theorem kt_X9_tried (l : Launch) (G : Gp) (h0 : Nat) (a0 : Nat → Nat) (wk : Option Nat) (a1 : Nat → Nat) (a2 : Nat → Nat) (a3 : Nat → Nat) (g4 : Nat → Nat) (aB4 : Nat → Nat → Nat) (a5 : Nat → Nat) (a6 : Nat → Nat) (f0 : Nat → Int32) (A0 : Nat → Nat → Int32) (f1 : Nat → Int32) (A1 : Nat → Nat → Int32) (f2 : Nat → Int32) (A2 : Nat → Nat → Int32) (f3 : Nat → Int32) (A3 : Nat → Nat → Int32) (fB4 : Nat → Nat → Int32) (AB4 : Nat → Nat → Nat → Int32) (f5 : Nat → Int32) (A5 : Nat → Nat → Int32) (f6 : Nat → Int32) (A6 : Nat → Nat → Int32) (p1 : Int32) (p2 : Int32) : ∀ {r : Int32 × (Nat → Nat → Int32) × (Nat → Int32) × (Nat → Nat → Int32) × (Nat → Int32) × (Nat → Nat → Int32) × (Nat → Int32)}, f9_tried f0 A0 f1 A1 f2 A2 f3 A3 fB4 AB4 f5 A5 f6 A6 p1 p2 = some r → CtrI l yX9_tried cX9_tried 6 (some .int) rmX9_tried G [.ref h0, .int p1, .int p2] (wX9 G h0 a0 wk f0 A0 ++ (wX1 G (a0 1) a1 f1 A1 ++ (wX6 G (a0 2) a2 f2 A2 ++ (wX6 G (a0 3) a3 f3 A3 ++ (wB G (a0 5) g4 aB4 fB4 AB4 ++ (wX5 G (a0 6) a5 f5 A5 ++ (wX2 G (a0 11) a6 f6 A6))))))) r.1 (wX9 G h0 a0 wk f0 A0 ++ (wX1 G (a0 1) a1 f1 A1 ++ (wX6 G (a0 2) a2 f2 A2 ++ (wX6 G (a0 3) a3 r.2.2.1 r.2.1 ++ (wB G (a0 5) g4 aB4 fB4 AB4 ++ (wX5 G (a0 6) a5 r.2.2.2.2.1 r.2.2.2.1 ++ (wX2 G (a0 11) a6 r.2.2.2.2.2.2 r.2.2.2.2.2.1))))))) := by
  intro res h
  refine ctrI_of (cc := cX9_tried) (maxL := 6) (ret := (some .int)) (by decide +kernel) rfl (Nat.le_of_ble_eq_true rfl) (fun p e s m below meth c DA C0 hP hD ls hl => ?_)
  have hPD : WD G DA (wX9 G h0 a0 wk f0 A0 ++ (wX1 G (a0 1) a1 f1 A1 ++ (wX6 G (a0 2) a2 f2 A2 ++ (wX6 G (a0 3) a3 f3 A3 ++ (wB G (a0 5) g4 aB4 fB4 AB4 ++ (wX5 G (a0 6) a5 f5 A5 ++ (wX2 G (a0 11) a6 f6 A6))))))) s.heap := ⟨hP, hD⟩
  have hS : va_S DA s.heap s.heap [] := va_S.rf
  have hl : lv_has ls 6 [(0, .ref h0), (1, .int p1), (2, .int p2)] := hl
  obtain ⟨hx, hb, hml, hown, hts⟩ := C0.1
  have hK := C0.2.2.2.1
  unfold f9_tried at h
  refine lv_iload_n hx hb dX9_tried_0 rfl (lv_at hl 1 rfl) ?_
  obtain ⟨q_1, hq_1, h⟩ := ob2 h
  refine kSI (As := [.int p1]) (rest := []) C0 (kt_X9_isHours l G  p1 hq_1) gi_S_X9_165_X9_isHours (n := 1) rfl (by decide +kernel) ⟨rfl, rfl, Nat.le_of_ble_eq_true rfl, Nat.le_of_ble_eq_true rfl⟩ hPD hS [] [0, 1, 2, 3, 4, 5, 6, 7, 8, 9, 10, 11, 12, 13, 14, 15, 16, 17, 18, 19, 20, 21, 22, 23, 24, 25, 26, 27, 28, 29, 30, 31, 32, 33, 34, 35, 36, 37, 38, 39, 40, 41, 42, 43, 44, 45] [0, 1, 2, 3, 4, 5, 6, 7, 8, 9, 10, 11, 12, 13, 14, 15, 16, 17, 18, 19, 20, 21, 22, 23, 24, 25, 26, 27, 28, 29, 30, 31, 32, 33, 34, 35, 36, 37, 38, 39, 40, 41, 42, 43, 44, 45] (wr := (wX9 G h0 a0 wk f0 A0 ++ (wX1 G (a0 1) a1 f1 A1 ++ (wX6 G (a0 2) a2 f2 A2 ++ (wX6 G (a0 3) a3 f3 A3 ++ (wB G (a0 5) g4 aB4 fB4 AB4 ++ (wX5 G (a0 6) a5 f5 A5 ++ (wX2 G (a0 11) a6 f6 A6)))))))) (wN := (wX9 G h0 a0 wk f0 A0 ++ (wX1 G (a0 1) a1 f1 A1 ++ (wX6 G (a0 2) a2 f2 A2 ++ (wX6 G (a0 3) a3 f3 A3 ++ (wB G (a0 5) g4 aB4 fB4 AB4 ++ (wX5 G (a0 6) a5 f5 A5 ++ (wX2 G (a0 11) a6 f6 A6)))))))) rfl rfl rfl rfl rfl hl.1 (Nat.le_of_ble_eq_true rfl) dX9_tried_1 (fun H locs hPD hS => ?_)
  refine lv_if_eq (tgt := 15) hx hb dX9_tried_4 (by decide) (fun cc1 => ?_) (fun cc1 => ?_)
  · have h := (if_pos cc1).symm.trans h
    refine lv_iconst (v := (-1)) hx hb dX9_tried_15 (by decide) ?_
    obtain rfl := Option.some.inj h
    exact eI C0 hPD.1 hPD.2 hS rfl dX9_tried_16
  · have h := (if_neg cc1).symm.trans h
    refine lv_aload_n hx hb dX9_tried_7 rfl (lv_at hl 0 rfl) ?_
    refine lv_iload_n hx hb dX9_tried_8 rfl (lv_at hl 2 rfl) ?_
    obtain ⟨q_2, hq_2, h⟩ := ob2 h
    refine kVI (As := [.int p2]) (rest := []) C0 (kt_X9_canBeTried l G h0 a0 wk a1 a2 f0 A0 f1 A1 f2 A2 p2 hq_2) gi_V_X9_175_X9_canBeTried (n := 1) rfl (by decide +kernel) rfl ⟨rfl, rfl, Nat.le_of_ble_eq_true rfl, Nat.le_of_ble_eq_true rfl⟩ hPD hS 0 9 rfl rfl rfl [0, 1, 2, 3, 4, 5, 6, 7, 8, 9, 10, 11] [12, 13, 14, 15, 16, 17, 18, 19, 20, 21, 22, 23, 24, 25, 26, 27, 28, 29, 30, 31, 32, 33, 34, 35, 36, 37, 38, 39, 40, 41, 42, 43, 44, 45] [34, 35, 36, 37, 38, 39, 40, 41, 42, 43, 44, 45, 0, 1, 2, 3, 4, 5, 6, 7, 8, 9, 10, 11, 12, 13, 14, 15, 16, 17, 18, 19, 20, 21, 22, 23, 24, 25, 26, 27, 28, 29, 30, 31, 32, 33] (wr := (wX6 G (a0 3) a3 f3 A3 ++ (wB G (a0 5) g4 aB4 fB4 AB4 ++ (wX5 G (a0 6) a5 f5 A5 ++ (wX2 G (a0 11) a6 f6 A6))))) (wN := (wX9 G h0 a0 wk f0 A0 ++ (wX1 G (a0 1) a1 f1 A1 ++ (wX6 G (a0 2) a2 f2 A2 ++ (wX6 G (a0 3) a3 f3 A3 ++ (wB G (a0 5) g4 aB4 fB4 AB4 ++ (wX5 G (a0 6) a5 f5 A5 ++ (wX2 G (a0 11) a6 f6 A6)))))))) rfl rfl rfl rfl rfl hl.1 (Nat.le_of_ble_eq_true rfl) dX9_tried_9 (fun H locs hPD hS => ?_)
    refine lv_if_ne (tgt := 17) hx hb dX9_tried_12 (by decide) (fun cc1 => ?_) (fun cc1 => ?_)
    · have h := (if_neg cc1).symm.trans h
      refine lv_iconst (v := 0) hx hb dX9_tried_17 (by decide) ?_
      refine lv_istore_n (lv' := [(3, .int 0), (0, .ref h0), (1, .int p1), (2, .int p2)]) hx hb dX9_tried_18 rfl hl (by decide) rfl (fun ls hl => ?_)
      refine lv_iconst (v := 0) hx hb dX9_tried_19 (by decide) ?_
      refine lv_istore (lv' := [(4, .int 0), (3, .int 0), (0, .ref h0), (1, .int p1), (2, .int p2)]) hx hb dX9_tried_20 hl (by decide) rfl (fun ls hl => ?_)
      refine lv_aload_n hx hb dX9_tried_22 rfl (lv_at hl 2 rfl) ?_
      refine va_get (D := G.1) (ci := 9) (v := .ref (a0 3)) (C := RX9) (T := TX9) (N := 15) hx hb hts inlX9 hown hK hPD.1 0 rfl rfl 3 (by decide) (hts _ gw_424) (fun _ h9 => h9) rfl dX9_tried_23 ?_
      refine lv_aload_n hx hb dX9_tried_26 rfl (lv_at hl 2 rfl) ?_
      refine va_get (D := G.1) (ci := 9) (v := .ref (a0 2)) (C := RX9) (T := TX9) (N := 15) hx hb hts inlX9 hown hK hPD.1 0 rfl rfl 2 (by decide) (hts _ gw_353) (fun _ h9 => h9) rfl dX9_tried_27 ?_
      obtain ⟨q_3, hq_3, h⟩ := ob2 h
      refine kVV (As := [.ref (a0 2)]) (rest := []) C0 (kt_X6_copy l G (a0 3) a3 (a0 2) a2 f3 A3 f2 A2 hq_3) gi_V_X9_178_X6_copy (n := 1) rfl (by decide +kernel) rfl ⟨rfl, rfl, Nat.le_of_ble_eq_true rfl, Nat.le_of_ble_eq_true rfl⟩ hPD hS 12 6 rfl rfl rfl [12, 13, 14, 15, 16, 17, 6, 7, 8, 9, 10, 11] [0, 1, 2, 3, 4, 5, 18, 19, 20, 21, 22, 23, 24, 25, 26, 27, 28, 29, 30, 31, 32, 33, 34, 35, 36, 37, 38, 39, 40, 41, 42, 43, 44, 45] [0, 1, 2, 3, 4, 5, 40, 41, 42, 43, 44, 45, 34, 35, 36, 37, 38, 39, 6, 7, 8, 9, 10, 11, 12, 13, 14, 15, 16, 17, 18, 19, 20, 21, 22, 23, 24, 25, 26, 27, 28, 29, 30, 31, 32, 33] (wr := (wX9 G h0 a0 wk f0 A0 ++ (wX1 G (a0 1) a1 f1 A1 ++ (wB G (a0 5) g4 aB4 fB4 AB4 ++ (wX5 G (a0 6) a5 f5 A5 ++ (wX2 G (a0 11) a6 f6 A6)))))) (wN := (wX9 G h0 a0 wk f0 A0 ++ (wX1 G (a0 1) a1 f1 A1 ++ (wX6 G (a0 2) a2 f2 A2 ++ (wX6 G (a0 3) a3 q_3.2 q_3.1 ++ (wB G (a0 5) g4 aB4 fB4 AB4 ++ (wX5 G (a0 6) a5 f5 A5 ++ (wX2 G (a0 11) a6 f6 A6)))))))) rfl rfl rfl rfl rfl hl.1 (Nat.le_of_ble_eq_true rfl) dX9_tried_30 (fun H locs hPD hS => ?_)
      refine lv_iconst (v := 0) hx hb dX9_tried_33 (by decide) ?_
      refine lv_istore (lv' := [(5, .int 0), (4, .int 0), (3, .int 0), (0, .ref h0), (1, .int p1), (2, .int p2)]) hx hb dX9_tried_34 hl (by decide) rfl (fun ls hl => ?_)
      exact ww_f9_tried_l36 C0 NF q_3.1 q_3.2 A5 f5 A6 f6 0 0 0 h _ _ _ hPD hS (lv_sub hl [3, 4, 5, 2, 1, 0] rfl)
    · have h := (if_pos cc1).symm.trans h
      refine lv_iconst (v := (-1)) hx hb dX9_tried_15 (by decide) ?_
      obtain rfl := Option.some.inj h
      exact eI C0 hPD.1 hPD.2 hS rfl dX9_tried_16
end WALK
