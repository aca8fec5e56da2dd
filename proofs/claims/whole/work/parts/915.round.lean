theorem gr_901 : Cond.classLink RX9 247 RX8 ∈ wsL_law := (List.mem_append_left _ (List.mem_append_left _ (List.mem_append_left _ (List.mem_append_left _ (List.mem_append_left _ (List.mem_append_left _ (List.mem_append_left _ (List.mem_append_left _ (List.mem_append_left _ (List.mem_append_left _ (List.mem_append_left _ (List.mem_append_left _ (List.mem_append_right _ (List.mem_append_right _ (List.mem_append_right _ (List.mem_append_right _ (List.mem_append_right _ (List.mem_append_right _ (List.mem_append_right _ (List.mem_append_right _ (List.mem_append_right _ (List.mem_append_right _ (List.mem_append_right _ (List.mem_append_right _ (List.mem_append_right _ (List.mem_append_right _ (List.mem_append_right _ (List.mem_append_right _ (List.mem_append_right _ (List.mem_append_right _ (List.mem_append_right _ (List.mem_append_right _ (List.mem_append_right _ (List.mem_append_right _ (List.mem_append_right _ (List.mem_append_right _ (List.mem_append_right _ (List.mem_append_right _ (List.mem_append_right _ (List.mem_append_right _ (List.mem_append_right _ (List.mem_append_right _ (List.mem_append_right _ (List.mem_append_right _ (List.mem_append_right _ (List.mem_append_right _ (List.mem_append_right _ (List.mem_append_right _ (List.mem_append_left _ (List.mem_of_getElem? (i := 0) rfl))))))))))))))))))))))))))))))))))))))))))))))))))
theorem gr_902 : Cond.instantiable RX8 3 ∈ wsL_law := (List.mem_append_left _ (List.mem_append_left _ (List.mem_append_left _ (List.mem_append_left _ (List.mem_append_left _ (List.mem_append_left _ (List.mem_append_left _ (List.mem_append_left _ (List.mem_append_left _ (List.mem_append_left _ (List.mem_append_left _ (List.mem_append_left _ (List.mem_append_right _ (List.mem_append_right _ (List.mem_append_right _ (List.mem_append_right _ (List.mem_append_right _ (List.mem_append_right _ (List.mem_append_right _ (List.mem_append_right _ (List.mem_append_right _ (List.mem_append_right _ (List.mem_append_right _ (List.mem_append_right _ (List.mem_append_right _ (List.mem_append_right _ (List.mem_append_right _ (List.mem_append_right _ (List.mem_append_right _ (List.mem_append_right _ (List.mem_append_right _ (List.mem_append_right _ (List.mem_append_right _ (List.mem_append_right _ (List.mem_append_right _ (List.mem_append_right _ (List.mem_append_right _ (List.mem_append_right _ (List.mem_append_right _ (List.mem_append_right _ (List.mem_append_right _ (List.mem_append_right _ (List.mem_append_right _ (List.mem_append_right _ (List.mem_append_right _ (List.mem_append_right _ (List.mem_append_right _ (List.mem_append_right _ (List.mem_append_left _ (List.mem_of_getElem? (i := 1) rfl))))))))))))))))))))))))))))))))))))))))))))))))))
theorem gr_903 : Cond.code yX8_init cX8_init 1 none ∈ wsL_law := (List.mem_append_left _ (List.mem_append_left _ (List.mem_append_left _ (List.mem_append_left _ (List.mem_append_left _ (List.mem_append_left _ (List.mem_append_left _ (List.mem_append_left _ (List.mem_append_left _ (List.mem_append_left _ (List.mem_append_left _ (List.mem_append_left _ (List.mem_append_right _ (List.mem_append_right _ (List.mem_append_right _ (List.mem_append_right _ (List.mem_append_right _ (List.mem_append_right _ (List.mem_append_right _ (List.mem_append_right _ (List.mem_append_right _ (List.mem_append_right _ (List.mem_append_right _ (List.mem_append_right _ (List.mem_append_right _ (List.mem_append_right _ (List.mem_append_right _ (List.mem_append_right _ (List.mem_append_right _ (List.mem_append_right _ (List.mem_append_right _ (List.mem_append_right _ (List.mem_append_right _ (List.mem_append_right _ (List.mem_append_right _ (List.mem_append_right _ (List.mem_append_right _ (List.mem_append_right _ (List.mem_append_right _ (List.mem_append_right _ (List.mem_append_right _ (List.mem_append_right _ (List.mem_append_right _ (List.mem_append_right _ (List.mem_append_right _ (List.mem_append_right _ (List.mem_append_right _ (List.mem_append_right _ (List.mem_append_left _ (List.mem_of_getElem? (i := 4) rfl))))))))))))))))))))))))))))))))))))))))))))))))))
theorem gr_904 : Cond.instanceMethod yX8_init ∈ wsL_law := (List.mem_append_left _ (List.mem_append_left _ (List.mem_append_left _ (List.mem_append_left _ (List.mem_append_left _ (List.mem_append_left _ (List.mem_append_left _ (List.mem_append_left _ (List.mem_append_left _ (List.mem_append_left _ (List.mem_append_left _ (List.mem_append_left _ (List.mem_append_right _ (List.mem_append_right _ (List.mem_append_right _ (List.mem_append_right _ (List.mem_append_right _ (List.mem_append_right _ (List.mem_append_right _ (List.mem_append_right _ (List.mem_append_right _ (List.mem_append_right _ (List.mem_append_right _ (List.mem_append_right _ (List.mem_append_right _ (List.mem_append_right _ (List.mem_append_right _ (List.mem_append_right _ (List.mem_append_right _ (List.mem_append_right _ (List.mem_append_right _ (List.mem_append_right _ (List.mem_append_right _ (List.mem_append_right _ (List.mem_append_right _ (List.mem_append_right _ (List.mem_append_right _ (List.mem_append_right _ (List.mem_append_right _ (List.mem_append_right _ (List.mem_append_right _ (List.mem_append_right _ (List.mem_append_right _ (List.mem_append_right _ (List.mem_append_right _ (List.mem_append_right _ (List.mem_append_right _ (List.mem_append_right _ (List.mem_append_left _ (List.mem_of_getElem? (i := 3) rfl))))))))))))))))))))))))))))))))))))))))))))))))))
theorem gi_U_X8_init : GoodIn wsL_law (wsU yX8_init cX8_init 1 none) := gdU gr_903
section RN
variable {p : Program} {l : Launch} {e : Env} {s : State} {m : MethodId} {args : Array Value} {below : List Frame} {meth : Method} {c : Code} {G : Gp} {DA : Nat → Prop}
abbrev rmX9_roundN : Room := { frames := 5, cells := 3, slots := 81923, locals := 122 }
set_option maxRecDepth 100000 in
set_option maxHeartbeats 4000000 in
theorem wg_f9_round_b50  (C0 : Cx cX9_round 5 (some .int) RX9 p s m args meth c G DA) {h0 : Nat} {a0 : Nat → Nat} {a1 : Nat → Nat} {a2 : Nat → Nat} {a3 : Nat → Nat} {f0 : Nat → Int32} {A0 : Nat → Nat → Int32} {f1 : Nat → Int32} {A1 : Nat → Nat → Int32} {f2 : Nat → Int32} {A2 : Nat → Nat → Int32} {p1 : Int32} {p2 : Int32} {p3 : Int32}   {S : Type} {w1 : S → va_W} {sv : S} {res : Int32 × (Nat → Nat → Int32) × (Nat → Int32)} (hw1 : (wX9 G h0 a0 (some (a0 13)) f0 A0 ++ (wX1 G (a0 1) a1 f1 A1 ++ (wX6 G (a0 2) a2 f2 A2 ++ (wX8 G (a0 13) a3 res.2.2 res.2.1)))) = w1 sv)   : ∀ (A3 : Nat → Nat → Int32) (f3 : Nat → Int32), f9_round_b50 f0 A0 f1 A1 f2 A2 p1 p2 p3  A3 f3 = some res → ∀ (H : Heap) (locs : List Loc) (ls : Array Slot), WD G DA (wX9 G h0 a0 (some (a0 13)) f0 A0 ++ (wX1 G (a0 1) a1 f1 A1 ++ (wX6 G (a0 2) a2 f2 A2 ++ (wX8 G (a0 13) a3 f3 A3)))) H → va_S DA s.heap H locs → lv_has ls 5 [(0, .ref h0), (1, .int p1), (2, .int p2), (3, .int p3)] → W p l e rmX9_roundN s m args below meth c H locs 3 81923 (MQ below (QIE G DA res.1 w1) args s 3 81923 DA) (F0 m 50 ls []) := by
  obtain ⟨hx, hb, hml, hown, hts⟩ := C0.1
  have hK := C0.2.2.2.1
  intro A3 f3 h _ _ _ hPD hS hl
  unfold f9_round_b50 at h
  refine lv_aload_n hx hb dX9_round_50 rfl (lv_at hl 0 rfl) ?_
  refine va_get (D := G.1) (ci := 9) (v := .ref (a0 13)) (C := RX9) (T := TX9) (N := 15) hx hb hts inlX9 hown hK hPD.1 0 rfl rfl 13 (by decide) (hts _ gw_469) (fun _ h9 => h9) rfl dX9_round_51 ?_
  refine lv_iload_n hx hb dX9_round_54 rfl (lv_at hl 1 rfl) ?_
  refine lv_iload_n hx hb dX9_round_55 rfl (lv_at hl 2 rfl) ?_
  refine lv_aload_n hx hb dX9_round_56 rfl (lv_at hl 0 rfl) ?_
  refine va_get (D := G.1) (ci := 9) (v := .ref (a0 2)) (C := RX9) (T := TX9) (N := 15) hx hb hts inlX9 hown hK hPD.1 0 rfl rfl 2 (by decide) (hts _ gw_353) (fun _ h9 => h9) rfl dX9_round_57 ?_
  refine va_get (D := G.1) (ci := 6) (v := .ref (a2 0)) (C := RX6) (T := TX6) (N := 10) hx hb hts inlX6 hown hK hPD.1 6 rfl rfl 0 (by decide) (hts _ gw_354) (fun _ h9 => h9) rfl dX9_round_60 ?_
  refine lv_aload_n hx hb dX9_round_63 rfl (lv_at hl 0 rfl) ?_
  refine va_get (D := G.1) (ci := 9) (v := .ref (a0 1)) (C := RX9) (T := TX9) (N := 15) hx hb hts inlX9 hown hK hPD.1 0 rfl rfl 1 (by decide) (hts _ gw_351) (fun _ h9 => h9) rfl dX9_round_64 ?_
  obtain ⟨q_1, hq_1, h⟩ := ob2 h
  refine kVIg (As := [.int p1, .int p2, .ref (a2 0), .ref (a0 1)]) (rest := []) C0 (kt_X8_best l G (a0 13) a3 (a2 0) (a0 1) a1 f3 A3 16 (A2 0) f1 A1 p1 p2 (by decide) hq_1) gi_V_X9_250_X8_best (n := 4) rfl (by decide +kernel) rfl ⟨rfl, rfl, Nat.le_of_ble_eq_true rfl, Nat.le_of_ble_eq_true rfl⟩ ⟨Nat.le_of_ble_eq_true rfl, Nat.le_of_ble_eq_true rfl⟩ hPD hS 12 8 rfl rfl rfl [12, 13, 14, 7, 2, 3, 4, 5] [0, 1, 6, 8, 9, 10, 11] [0, 1, 11, 12, 13, 14, 2, 10, 3, 4, 5, 6, 7, 8, 9] (wr := pick (wX9 G h0 a0 (some (a0 13)) f0 A0 ++ (wX1 G (a0 1) a1 f1 A1 ++ (wX6 G (a0 2) a2 f2 A2 ++ (wX8 G (a0 13) a3 f3 A3)))) [0, 1, 6, 8, 9, 10, 11]) (wN := (wX9 G h0 a0 (some (a0 13)) f0 A0 ++ (wX1 G (a0 1) a1 f1 A1 ++ (wX6 G (a0 2) a2 f2 A2 ++ (wX8 G (a0 13) a3 q_1.2.2 q_1.2.1))))) rfl rfl rfl rfl rfl hl.1 (Nat.le_of_ble_eq_true rfl) dX9_round_67 (fun H locs hPD hS => ?_)
  refine lv_istore (lv' := [(4, .int q_1.1), (0, .ref h0), (1, .int p1), (2, .int p2), (3, .int p3)]) hx hb dX9_round_70 hl (by decide) rfl (fun ls hl => ?_)
  refine lv_iload_n hx hb dX9_round_72 rfl (lv_at hl 4 rfl) ?_
  refine lv_if_ne (tgt := 91) hx hb dX9_round_73 (by decide) (fun cc1 => ?_) (fun cc1 => ?_)
  · have h := (if_neg cc1).symm.trans h
    refine lv_iload hx hb dX9_round_91 (lv_at hl 0 rfl) ?_
    obtain rfl := Option.some.inj h
    exact eA sv C0 hPD hw1 hS rfl dX9_round_93
  · have h := (if_pos cc1).symm.trans h
    refine lv_aload_n hx hb dX9_round_76 rfl (lv_at hl 1 rfl) ?_
    refine va_get (D := G.1) (ci := 9) (v := .ref (a0 2)) (C := RX9) (T := TX9) (N := 15) hx hb hts inlX9 hown hK hPD.1 0 rfl rfl 2 (by decide) (hts _ gw_353) (fun _ h9 => h9) rfl dX9_round_77 ?_
    refine va_get (D := G.1) (ci := 6) (v := .ref (a2 0)) (C := RX6) (T := TX6) (N := 10) hx hb hts inlX6 hown hK hPD.1 6 rfl rfl 0 (by decide) (hts _ gw_354) (fun _ h9 => h9) rfl dX9_round_80 ?_
    refine lv_iload hx hb dX9_round_83 (lv_at hl 0 rfl) ?_
    obtain ⟨q_2, hq_2, h⟩ := ob2 h
    refine kSIg (As := [.ref (a2 0), .int q_1.1]) (rest := []) C0 (kt_X9_sumOf l G (a2 0) 16 (A2 0) q_1.1 (by decide) hq_2) gi_S_X9_254_X9_sumOf (n := 2) rfl (by decide +kernel) ⟨rfl, rfl, Nat.le_of_ble_eq_true rfl, Nat.le_of_ble_eq_true rfl⟩ ⟨Nat.le_of_ble_eq_true rfl, Nat.le_of_ble_eq_true rfl⟩ hPD hS [7] [0, 1, 2, 3, 4, 5, 6, 8, 9, 10, 11, 12, 13, 14] [0, 1, 2, 3, 4, 5, 6, 14, 7, 8, 9, 10, 11, 12, 13] (wr := pick (wX9 G h0 a0 (some (a0 13)) f0 A0 ++ (wX1 G (a0 1) a1 f1 A1 ++ (wX6 G (a0 2) a2 f2 A2 ++ (wX8 G (a0 13) a3 q_1.2.2 q_1.2.1)))) [0, 1, 2, 3, 4, 5, 6, 8, 9, 10, 11, 12, 13, 14]) (wN := (wX9 G h0 a0 (some (a0 13)) f0 A0 ++ (wX1 G (a0 1) a1 f1 A1 ++ (wX6 G (a0 2) a2 f2 A2 ++ (wX8 G (a0 13) a3 q_1.2.2 q_1.2.1))))) rfl rfl rfl rfl rfl hl.1 (Nat.le_of_ble_eq_true rfl) dX9_round_85 (fun H locs hPD hS => ?_)
    refine lv_goto (tgt := 93) hx hb dX9_round_88 (by decide) ?_
    obtain rfl := Option.some.inj h
    exact eA sv C0 hPD hw1 hS rfl dX9_round_93

set_option maxRecDepth 100000 in
set_option maxHeartbeats 4000000 in
theorem kt_X9_roundN0 (l : Launch) (G : Gp) (h0 : Nat) (a0 : Nat → Nat) (a1 : Nat → Nat) (a2 : Nat → Nat) (f0 : Nat → Int32) (A0 : Nat → Nat → Int32) (f1 : Nat → Int32) (A1 : Nat → Nat → Int32) (f2 : Nat → Int32) (A2 : Nat → Nat → Int32) (p1 : Int32) (p2 : Int32) (p3 : Int32) (hv : f1_isTold f1 A1 p1 = 0 ∨ f9_within p2 1 8 = 0 ∨ f9_within p3 0 1 = 0) : CtrI l yX9_round cX9_round 5 (some .int) rmX9_round G [.ref h0, .int p1, .int p2, .int p3] (wX9 G h0 a0 none f0 A0 ++ (wX1 G (a0 1) a1 f1 A1 ++ (wX6 G (a0 2) a2 f2 A2))) (-1) (wX9 G h0 a0 none f0 A0 ++ (wX1 G (a0 1) a1 f1 A1 ++ (wX6 G (a0 2) a2 f2 A2))) := by
  refine ctrI_of (cc := cX9_round) (maxL := 5) (ret := (some .int)) (by decide +kernel) rfl (Nat.le_of_ble_eq_true rfl) (fun p e s m below meth c DA C0 hP hD ls hl => ?_)
  have hPD : WD G DA (wX9 G h0 a0 none f0 A0 ++ (wX1 G (a0 1) a1 f1 A1 ++ (wX6 G (a0 2) a2 f2 A2))) s.heap := ⟨hP, hD⟩
  have hS : va_S DA s.heap s.heap [] := va_S.rf
  have hl : lv_has ls 5 [(0, .ref h0), (1, .int p1), (2, .int p2), (3, .int p3)] := hl
  obtain ⟨hx, hb, hml, hown, hts⟩ := C0.1
  have hK := C0.2.2.2.1
  refine lv_aload_n hx hb dX9_round_0 rfl (lv_at hl 0 rfl) ?_
  refine va_get (D := G.1) (ci := 9) (v := .ref (a0 1)) (C := RX9) (T := TX9) (N := 15) hx hb hts inlX9 hown hK hPD.1 0 rfl rfl 1 (by decide) (hts _ gw_351) (fun _ h9 => h9) rfl dX9_round_1 ?_
  refine lv_iload_n hx hb dX9_round_4 rfl (lv_at hl 1 rfl) ?_
  refine kVI (As := [.int p1]) (rest := []) C0 (kt_X1_isTold l G (a0 1) a1 f1 A1 p1) gi_V_X9_108_X1_isTold (n := 1) rfl (by decide +kernel) rfl ⟨rfl, rfl, Nat.le_of_ble_eq_true rfl, Nat.le_of_ble_eq_true rfl⟩ hPD hS 2 1 rfl rfl rfl [2, 3, 4, 5] [0, 1, 6, 7, 8, 9, 10, 11] [0, 1, 8, 9, 10, 11, 2, 3, 4, 5, 6, 7] (wr := (wX9 G h0 a0 none f0 A0 ++ (wX6 G (a0 2) a2 f2 A2))) (wN := (wX9 G h0 a0 none f0 A0 ++ (wX1 G (a0 1) a1 f1 A1 ++ (wX6 G (a0 2) a2 f2 A2)))) rfl rfl rfl rfl rfl hl.1 (Nat.le_of_ble_eq_true rfl) dX9_round_5 (fun H locs hPD hS => ?_)
  refine lv_if_eq (tgt := 30) hx hb dX9_round_8 (by decide) (fun cc1 => ?_) (fun cc1 => ?_)
  · refine lv_iconst (v := (-1)) hx hb dX9_round_30 (by decide) ?_
    exact eI C0 hPD.1 hPD.2 hS rfl dX9_round_31
  · refine lv_iload_n hx hb dX9_round_11 rfl (lv_at hl 2 rfl) ?_
    refine lv_iconst (v := 1) hx hb dX9_round_12 (by decide) ?_
    refine lv_bipush (v := 8) hx hb dX9_round_13 (by decide) ?_
    refine kSI (As := [.int p2, .int 1, .int 8]) (rest := []) C0 (kt_X9_within l G p2 1 8) gi_S_X9_90_X9_within (n := 3) rfl (by decide +kernel) ⟨rfl, rfl, Nat.le_of_ble_eq_true rfl, Nat.le_of_ble_eq_true rfl⟩ hPD hS [] [0, 1, 2, 3, 4, 5, 6, 7, 8, 9, 10, 11] [0, 1, 2, 3, 4, 5, 6, 7, 8, 9, 10, 11] (wr := (wX9 G h0 a0 none f0 A0 ++ (wX1 G (a0 1) a1 f1 A1 ++ (wX6 G (a0 2) a2 f2 A2)))) (wN := (wX9 G h0 a0 none f0 A0 ++ (wX1 G (a0 1) a1 f1 A1 ++ (wX6 G (a0 2) a2 f2 A2)))) rfl rfl rfl rfl rfl hl.1 (Nat.le_of_ble_eq_true rfl) dX9_round_15 (fun H locs hPD hS => ?_)
    refine lv_if_eq (tgt := 30) hx hb dX9_round_18 (by decide) (fun cc2 => ?_) (fun cc2 => ?_)
    · refine lv_iconst (v := (-1)) hx hb dX9_round_30 (by decide) ?_
      exact eI C0 hPD.1 hPD.2 hS rfl dX9_round_31
    · refine lv_iload_n hx hb dX9_round_21 rfl (lv_at hl 3 rfl) ?_
      refine lv_iconst (v := 0) hx hb dX9_round_22 (by decide) ?_
      refine lv_iconst (v := 1) hx hb dX9_round_23 (by decide) ?_
      refine kSI (As := [.int p3, .int 0, .int 1]) (rest := []) C0 (kt_X9_within l G p3 0 1) gi_S_X9_90_X9_within (n := 3) rfl (by decide +kernel) ⟨rfl, rfl, Nat.le_of_ble_eq_true rfl, Nat.le_of_ble_eq_true rfl⟩ hPD hS [] [0, 1, 2, 3, 4, 5, 6, 7, 8, 9, 10, 11] [0, 1, 2, 3, 4, 5, 6, 7, 8, 9, 10, 11] (wr := (wX9 G h0 a0 none f0 A0 ++ (wX1 G (a0 1) a1 f1 A1 ++ (wX6 G (a0 2) a2 f2 A2)))) (wN := (wX9 G h0 a0 none f0 A0 ++ (wX1 G (a0 1) a1 f1 A1 ++ (wX6 G (a0 2) a2 f2 A2)))) rfl rfl rfl rfl rfl hl.1 (Nat.le_of_ble_eq_true rfl) dX9_round_24 (fun H locs hPD hS => ?_)
      refine lv_if_ne (tgt := 32) hx hb dX9_round_27 (by decide) (fun cc3 => ?_) (fun cc3 => ?_)
      · exact absurd hv (fun h => h.elim cc1 (fun h => h.elim cc2 cc3))
      · refine lv_iconst (v := (-1)) hx hb dX9_round_30 (by decide) ?_
        exact eI C0 hPD.1 hPD.2 hS rfl dX9_round_31
set_option maxRecDepth 100000 in
set_option maxHeartbeats 4000000 in
theorem kt_X9_roundN1 (l : Launch) (G : Gp) (h0 : Nat) (a0 : Nat → Nat) (a1 : Nat → Nat) (a2 : Nat → Nat) (f0 : Nat → Int32) (A0 : Nat → Nat → Int32) (f1 : Nat → Int32) (A1 : Nat → Nat → Int32) (f2 : Nat → Int32) (A2 : Nat → Nat → Int32) (p1 : Int32) (p2 : Int32) (p3 : Int32) (hv1 : ¬ f1_isTold f1 A1 p1 = 0) (hv2 : ¬ f9_within p2 1 8 = 0) (hv3 : ¬ f9_within p3 0 1 = 0) {r : Int32 × (Nat → Nat → Int32) × (Nat → Int32)} (h : f9_round f0 A0 f1 A1 f2 A2 (fun _ => 0) (fun _ _ => 0) p1 p2 p3 = some r) : CtrA l yX9_round cX9_round 5 (some .int) rmX9_roundN G [.ref h0, .int p1, .int p2, .int p3] (wX9 G h0 a0 none f0 A0 ++ (wX1 G (a0 1) a1 f1 A1 ++ (wX6 G (a0 2) a2 f2 A2))) r.1 (fun w : Nat × (Nat → Nat) => (wX9 G h0 (va_up a0 13 w.1) (some w.1) f0 A0 ++ (wX1 G (a0 1) a1 f1 A1 ++ (wX6 G (a0 2) a2 f2 A2 ++ (wX8 G w.1 w.2 (r.2.2) (r.2.1)))))) 3 81923 := by
  unfold f9_round at h
  rw [if_neg hv1, if_neg hv2, if_neg hv3] at h
  refine ctrA_of (cc := cX9_round) (maxL := 5) (ret := (some .int)) (by decide +kernel) rfl (Nat.le_of_ble_eq_true rfl) (fun p e s m below meth c DA C0 hP hD ls hl => ?_)
  have hPD : WD G DA (wX9 G h0 a0 none f0 A0 ++ (wX1 G (a0 1) a1 f1 A1 ++ (wX6 G (a0 2) a2 f2 A2))) s.heap := ⟨hP, hD⟩
  have hS : va_S DA s.heap s.heap [] := va_S.rf
  have hl : lv_has ls 5 [(0, .ref h0), (1, .int p1), (2, .int p2), (3, .int p3)] := hl
  obtain ⟨hx, hb, hml, hown, hts⟩ := C0.1
  have hK := C0.2.2.2.1
  refine lv_aload_n hx hb dX9_round_0 rfl (lv_at hl 0 rfl) ?_
  refine va_get (D := G.1) (ci := 9) (v := .ref (a0 1)) (C := RX9) (T := TX9) (N := 15) hx hb hts inlX9 hown hK hPD.1 0 rfl rfl 1 (by decide) (hts _ gw_351) (fun _ h9 => h9) rfl dX9_round_1 ?_
  refine lv_iload_n hx hb dX9_round_4 rfl (lv_at hl 1 rfl) ?_
  refine kVI (As := [.int p1]) (rest := []) C0 (kt_X1_isTold l G (a0 1) a1 f1 A1 p1) gi_V_X9_108_X1_isTold (n := 1) rfl (by decide +kernel) rfl ⟨rfl, rfl, Nat.le_of_ble_eq_true rfl, Nat.le_of_ble_eq_true rfl⟩ hPD hS 2 1 rfl rfl rfl [2, 3, 4, 5] [0, 1, 6, 7, 8, 9, 10, 11] [0, 1, 8, 9, 10, 11, 2, 3, 4, 5, 6, 7] (wr := (wX9 G h0 a0 none f0 A0 ++ (wX6 G (a0 2) a2 f2 A2))) (wN := (wX9 G h0 a0 none f0 A0 ++ (wX1 G (a0 1) a1 f1 A1 ++ (wX6 G (a0 2) a2 f2 A2)))) rfl rfl rfl rfl rfl hl.1 (Nat.le_of_ble_eq_true rfl) dX9_round_5 (fun H locs hPD hS => ?_)
  refine lv_if_eq (tgt := 30) hx hb dX9_round_8 (by decide) (fun cc1 => absurd cc1 hv1) (fun cc1 => ?_)
  refine lv_iload_n hx hb dX9_round_11 rfl (lv_at hl 2 rfl) ?_
  refine lv_iconst (v := 1) hx hb dX9_round_12 (by decide) ?_
  refine lv_bipush (v := 8) hx hb dX9_round_13 (by decide) ?_
  refine kSI (As := [.int p2, .int 1, .int 8]) (rest := []) C0 (kt_X9_within l G p2 1 8) gi_S_X9_90_X9_within (n := 3) rfl (by decide +kernel) ⟨rfl, rfl, Nat.le_of_ble_eq_true rfl, Nat.le_of_ble_eq_true rfl⟩ hPD hS [] [0, 1, 2, 3, 4, 5, 6, 7, 8, 9, 10, 11] [0, 1, 2, 3, 4, 5, 6, 7, 8, 9, 10, 11] (wr := (wX9 G h0 a0 none f0 A0 ++ (wX1 G (a0 1) a1 f1 A1 ++ (wX6 G (a0 2) a2 f2 A2)))) (wN := (wX9 G h0 a0 none f0 A0 ++ (wX1 G (a0 1) a1 f1 A1 ++ (wX6 G (a0 2) a2 f2 A2)))) rfl rfl rfl rfl rfl hl.1 (Nat.le_of_ble_eq_true rfl) dX9_round_15 (fun H locs hPD hS => ?_)
  refine lv_if_eq (tgt := 30) hx hb dX9_round_18 (by decide) (fun cc2 => absurd cc2 hv2) (fun cc2 => ?_)
  refine lv_iload_n hx hb dX9_round_21 rfl (lv_at hl 3 rfl) ?_
  refine lv_iconst (v := 0) hx hb dX9_round_22 (by decide) ?_
  refine lv_iconst (v := 1) hx hb dX9_round_23 (by decide) ?_
  refine kSI (As := [.int p3, .int 0, .int 1]) (rest := []) C0 (kt_X9_within l G p3 0 1) gi_S_X9_90_X9_within (n := 3) rfl (by decide +kernel) ⟨rfl, rfl, Nat.le_of_ble_eq_true rfl, Nat.le_of_ble_eq_true rfl⟩ hPD hS [] [0, 1, 2, 3, 4, 5, 6, 7, 8, 9, 10, 11] [0, 1, 2, 3, 4, 5, 6, 7, 8, 9, 10, 11] (wr := (wX9 G h0 a0 none f0 A0 ++ (wX1 G (a0 1) a1 f1 A1 ++ (wX6 G (a0 2) a2 f2 A2)))) (wN := (wX9 G h0 a0 none f0 A0 ++ (wX1 G (a0 1) a1 f1 A1 ++ (wX6 G (a0 2) a2 f2 A2)))) rfl rfl rfl rfl rfl hl.1 (Nat.le_of_ble_eq_true rfl) dX9_round_24 (fun H locs hPD hS => ?_)
  refine lv_if_ne (tgt := 32) hx hb dX9_round_27 (by decide) (fun cc3 => ?_) (fun cc3 => absurd cc3 hv3)
  refine lv_aload_n hx hb dX9_round_32 rfl (lv_at hl 0 rfl) ?_
  refine va_get (D := G.1) (ci := 9) (v := .null) (C := RX9) (T := TX9) (N := 15) hx hb hts inlX9 hown hK hPD.1 0 rfl rfl 13 (by decide) (hts _ gw_469) (fun _ h9 => h9) rfl dX9_round_33 ?_
  refine lv_ifnonnullN hx hb dX9_round_36 ?_
  refine lv_aload_n hx hb dX9_round_39 rfl (lv_at hl 0 rfl) ?_
  refine va_new (ci := 8) (fs := [.null, .null, .int 0]) (C := RX8) (T := TX8) (N := 3) hx hb hts inlX8 tyX8 tyX8_ok hown (hts _ gr_901) (hts _ gr_902) (hts _ gw_341) hK hPD.1 hPD.2 hS C0.2.2.2.2.2 rfl (lt_s (lt_s (lt_s (lt_0) rfl) rfl) rfl) (Nat.le_of_ble_eq_true rfl) (Nat.le_of_ble_eq_true rfl) dX9_round_40 (fun q H hP hD hS => ?_)
  have hPD : WD G DA (wX9 G h0 a0 none f0 A0 ++ (wX1 G (a0 1) a1 f1 A1 ++ (wX6 G (a0 2) a2 f2 A2 ++ [(q, .inr (8, [.null, .null, .int 0]))]))) H := ⟨hP, hD⟩
  refine lv_dup hx hb dX9_round_43 rfl ?_
  refine kNN C0 (kt_X8_init l G q) gi_U_X8_init (host := "IdleCrimes") (index := 249) (List.mem_of_getElem? (i := 34) rfl) gw_341 gr_904 rfl (by decide +kernel) ⟨rfl, rfl, Nat.le_of_ble_eq_true rfl, Nat.le_of_ble_eq_true rfl⟩ hPD hS [12] [0, 1, 2, 3, 4, 5, 6, 7, 8, 9, 10, 11] rfl rfl rfl hl.1 (Nat.le_of_ble_eq_true rfl) dX9_round_44 ⟨Nat.le_of_ble_eq_true rfl, Nat.le_of_ble_eq_true rfl⟩ (fun aW H locs hPD hS => ?_)
  have hPD : WD G DA (wX9 G h0 a0 none f0 A0 ++ (wX1 G (a0 1) a1 f1 A1 ++ (wX6 G (a0 2) a2 f2 A2 ++ (wX8 G q aW (fun _ => 0) (fun _ _ => 0))))) H := hPD
  refine va_put (D := G.1) (ci := 9) (v := .ref q) (ty := .object "IdleCrimes$Walks") (C := RX9) (T := TX9) (N := 15) hx hb hts inlX9 tyX9 tyX9_ok nmX9 hown hK hPD.1 hPD.2 hS 0 rfl rfl 13 (by decide) (hts _ gw_469) (fun _ h9 => h9) rfl (by decide +kernel) rfl rfl (Nat.le_of_ble_eq_true rfl) dX9_round_47 (fun H locs hP hD hS => ?_)
  have hPD : WD G DA (wX9 G h0 (va_up a0 13 q) (some ((va_up a0 13 q) 13)) f0 A0 ++ (wX1 G ((va_up a0 13 q) 1) a1 f1 A1 ++ (wX6 G ((va_up a0 13 q) 2) a2 f2 A2 ++ (wX8 G ((va_up a0 13 q) 13) aW (fun _ => 0) (fun _ _ => 0))))) H := ⟨hP, hD⟩
  exact wg_f9_round_b50 (w1 := fun w : Nat × (Nat → Nat) => (wX9 G h0 (va_up a0 13 w.1) (some w.1) f0 A0 ++ (wX1 G (a0 1) a1 f1 A1 ++ (wX6 G (a0 2) a2 f2 A2 ++ (wX8 G w.1 w.2 (r.2.2) (r.2.1)))))) (sv := (q, aW)) C0 rfl (fun _ _ => 0) (fun _ => 0) h _ _ _ hPD hS (lv_sub hl [0, 1, 2, 3] rfl)
end RN
