section WALK
variable {p : Program} {l : Launch} {e : Env} {s : State} {m : MethodId} {args : Array Value} {below : List Frame} {meth : Method} {c : Code} {G : Gp} {DA : Nat → Prop}
abbrev rmX9_count : Room := { frames := 4, cells := 0, slots := 0, locals := 86 }
set_option maxRecDepth 100000 in
set_option maxHeartbeats 4000000 in
theorem kt_X9_count (l : Launch) (G : Gp) (h0 : Nat) (a0 : Nat → Nat) (wk : Option Nat) (a1 : Nat → Nat) (a2 : Nat → Nat) (a3 : Nat → Nat) (a4 : Nat → Nat) (f0 : Nat → Int32) (A0 : Nat → Nat → Int32) (f1 : Nat → Int32) (A1 : Nat → Nat → Int32) (f2 : Nat → Int32) (A2 : Nat → Nat → Int32) (f3 : Nat → Int32) (A3 : Nat → Nat → Int32) (f4 : Nat → Int32) (A4 : Nat → Nat → Int32) (p1 : Int32) : ∀ {r : Int32}, f9_count f0 A0 f1 A1 f2 A2 f3 A3 f4 A4 p1 = some r → CtrI l yX9_count cX9_count 2 (some .int) rmX9_count G [.ref h0, .int p1] (wX9 G h0 a0 wk f0 A0 ++ (wX7 G (a0 0) a1 f1 A1 ++ (wX1 G (a0 1) a2 f2 A2 ++ (wX6 G (a0 2) a3 f3 A3 ++ (wX2 G (a0 11) a4 f4 A4))))) r (wX9 G h0 a0 wk f0 A0 ++ (wX7 G (a0 0) a1 f1 A1 ++ (wX1 G (a0 1) a2 f2 A2 ++ (wX6 G (a0 2) a3 f3 A3 ++ (wX2 G (a0 11) a4 f4 A4))))) := by
  intro res h
  refine ctrI_of (cc := cX9_count) (maxL := 2) (ret := (some .int)) (by decide +kernel) rfl (Nat.le_of_ble_eq_true rfl) (fun p e s m below meth c DA C0 hP hD ls hl => ?_)
  have hPD : WD G DA (wX9 G h0 a0 wk f0 A0 ++ (wX7 G (a0 0) a1 f1 A1 ++ (wX1 G (a0 1) a2 f2 A2 ++ (wX6 G (a0 2) a3 f3 A3 ++ (wX2 G (a0 11) a4 f4 A4))))) s.heap := ⟨hP, hD⟩
  have hS : va_S DA s.heap s.heap [] := va_S.rf
  have hl : lv_has ls 2 [(0, .ref h0), (1, .int p1)] := hl
  obtain ⟨hx, hb, hml, hown, hts⟩ := C0.1
  have hK := C0.2.2.2.1
  unfold f9_count at h
  refine lv_iload_n hx hb dX9_count_0 rfl (lv_at hl 1 rfl) ?_
  by_cases cc0 : p1 = 0
  · have h := (if_pos cc0).symm.trans h
    refine lv_swT (tgt := 52) (k := 0) hx hb dX9_count_1 cc0 (by decide) (by decide) ?_
    refine lv_aload_n hx hb dX9_count_52 rfl (lv_at hl 0 rfl) ?_
    refine va_get (D := G.1) (ci := 9) (v := .ref (a0 2)) (C := RX9) (T := TX9) (N := 15) hx hb hts inlX9 hown hK hPD.1 0 rfl rfl 2 (by decide) (hts _ gw_353) (fun _ h9 => h9) rfl dX9_count_53 ?_
    refine va_get (D := G.1) (ci := 6) (v := .int (f3 8)) (C := RX6) (T := TX6) (N := 10) hx hb hts inlX6 hown hK hPD.1 8 rfl rfl 8 (by decide) (hts _ gw_442) (fun _ h9 => h9) rfl dX9_count_56 ?_
    obtain rfl := Option.some.inj h
    exact eI C0 hPD.1 hPD.2 hS rfl dX9_count_59
  have h := (if_neg cc0).symm.trans h
  by_cases cc1 : p1 = 1
  · have h := (if_pos cc1).symm.trans h
    refine lv_swT (tgt := 60) (k := 1) hx hb dX9_count_1 cc1 (by decide) (by decide) ?_
    refine lv_aload_n hx hb dX9_count_60 rfl (lv_at hl 0 rfl) ?_
    refine va_get (D := G.1) (ci := 9) (v := .ref (a0 2)) (C := RX9) (T := TX9) (N := 15) hx hb hts inlX9 hown hK hPD.1 0 rfl rfl 2 (by decide) (hts _ gw_353) (fun _ h9 => h9) rfl dX9_count_61 ?_
    refine va_get (D := G.1) (ci := 6) (v := .int (f3 7)) (C := RX6) (T := TX6) (N := 10) hx hb hts inlX6 hown hK hPD.1 8 rfl rfl 7 (by decide) (hts _ gw_443) (fun _ h9 => h9) rfl dX9_count_64 ?_
    obtain rfl := Option.some.inj h
    exact eI C0 hPD.1 hPD.2 hS rfl dX9_count_67
  have h := (if_neg cc1).symm.trans h
  by_cases cc2 : p1 = 2
  · have h := (if_pos cc2).symm.trans h
    refine lv_swT (tgt := 68) (k := 2) hx hb dX9_count_1 cc2 (by decide) (by decide) ?_
    refine lv_aload_n hx hb dX9_count_68 rfl (lv_at hl 0 rfl) ?_
    refine va_get (D := G.1) (ci := 9) (v := .ref (a0 2)) (C := RX9) (T := TX9) (N := 15) hx hb hts inlX9 hown hK hPD.1 0 rfl rfl 2 (by decide) (hts _ gw_353) (fun _ h9 => h9) rfl dX9_count_69 ?_
    refine va_get (D := G.1) (ci := 6) (v := .int (f3 6)) (C := RX6) (T := TX6) (N := 10) hx hb hts inlX6 hown hK hPD.1 8 rfl rfl 6 (by decide) (hts _ gw_431) (fun _ h9 => h9) rfl dX9_count_72 ?_
    obtain rfl := Option.some.inj h
    exact eI C0 hPD.1 hPD.2 hS rfl dX9_count_75
  have h := (if_neg cc2).symm.trans h
  by_cases cc3 : p1 = 3
  · have h := (if_pos cc3).symm.trans h
    refine lv_swT (tgt := 76) (k := 3) hx hb dX9_count_1 cc3 (by decide) (by decide) ?_
    refine lv_aload_n hx hb dX9_count_76 rfl (lv_at hl 0 rfl) ?_
    refine va_get (D := G.1) (ci := 9) (v := .ref (a0 1)) (C := RX9) (T := TX9) (N := 15) hx hb hts inlX9 hown hK hPD.1 0 rfl rfl 1 (by decide) (hts _ gw_351) (fun _ h9 => h9) rfl dX9_count_77 ?_
    refine va_get (D := G.1) (ci := 1) (v := .int (f2 0)) (C := RX1) (T := TX1) (N := 4) hx hb hts inlX1 hown hK hPD.1 4 rfl rfl 0 (by decide) (hts _ gw_352) (fun _ h9 => h9) rfl dX9_count_80 ?_
    obtain rfl := Option.some.inj h
    exact eI C0 hPD.1 hPD.2 hS rfl dX9_count_83
  have h := (if_neg cc3).symm.trans h
  by_cases cc4 : p1 = 4
  · have h := (if_pos cc4).symm.trans h
    refine lv_swT (tgt := 84) (k := 4) hx hb dX9_count_1 cc4 (by decide) (by decide) ?_
    refine lv_aload_n hx hb dX9_count_84 rfl (lv_at hl 0 rfl) ?_
    refine va_get (D := G.1) (ci := 9) (v := .ref (a0 2)) (C := RX9) (T := TX9) (N := 15) hx hb hts inlX9 hown hK hPD.1 0 rfl rfl 2 (by decide) (hts _ gw_353) (fun _ h9 => h9) rfl dX9_count_85 ?_
    refine va_get (D := G.1) (ci := 6) (v := .int (f3 5)) (C := RX6) (T := TX6) (N := 10) hx hb hts inlX6 hown hK hPD.1 8 rfl rfl 5 (by decide) (hts _ gw_358) (fun _ h9 => h9) rfl dX9_count_88 ?_
    obtain rfl := Option.some.inj h
    exact eI C0 hPD.1 hPD.2 hS rfl dX9_count_91
  have h := (if_neg cc4).symm.trans h
  by_cases cc5 : p1 = 5
  · have h := (if_pos cc5).symm.trans h
    refine lv_swT (tgt := 92) (k := 5) hx hb dX9_count_1 cc5 (by decide) (by decide) ?_
    refine lv_aload_n hx hb dX9_count_92 rfl (lv_at hl 0 rfl) ?_
    refine va_get (D := G.1) (ci := 9) (v := .ref (a0 2)) (C := RX9) (T := TX9) (N := 15) hx hb hts inlX9 hown hK hPD.1 0 rfl rfl 2 (by decide) (hts _ gw_353) (fun _ h9 => h9) rfl dX9_count_93 ?_
    obtain ⟨q_1, hq_1, h⟩ := ob2 h
    refine kVI (As := []) (rest := []) C0 (kt_X6_wages l G (a0 2) a3 f3 A3 hq_1) gi_V_X9_221_X6_wages (n := 0) rfl (by decide +kernel) rfl ⟨rfl, rfl, Nat.le_of_ble_eq_true rfl, Nat.le_of_ble_eq_true rfl⟩ hPD hS 8 6 rfl rfl rfl [8, 9, 10, 11, 12, 13] [0, 1, 2, 3, 4, 5, 6, 7, 14, 15, 16, 17, 18, 19, 20, 21] [0, 1, 2, 3, 4, 5, 6, 7, 16, 17, 18, 19, 20, 21, 8, 9, 10, 11, 12, 13, 14, 15] (wr := (wX9 G h0 a0 wk f0 A0 ++ (wX7 G (a0 0) a1 f1 A1 ++ (wX1 G (a0 1) a2 f2 A2 ++ (wX2 G (a0 11) a4 f4 A4))))) (wN := (wX9 G h0 a0 wk f0 A0 ++ (wX7 G (a0 0) a1 f1 A1 ++ (wX1 G (a0 1) a2 f2 A2 ++ (wX6 G (a0 2) a3 f3 A3 ++ (wX2 G (a0 11) a4 f4 A4)))))) rfl rfl rfl rfl rfl hl.1 (Nat.le_of_ble_eq_true rfl) dX9_count_96 (fun H locs hPD hS => ?_)
    obtain rfl := Option.some.inj h
    exact eI C0 hPD.1 hPD.2 hS rfl dX9_count_99
  have h := (if_neg cc5).symm.trans h
  by_cases cc6 : p1 = 6
  · have h := (if_pos cc6).symm.trans h
    refine lv_swT (tgt := 100) (k := 6) hx hb dX9_count_1 cc6 (by decide) (by decide) ?_
    refine lv_aload_n hx hb dX9_count_100 rfl (lv_at hl 0 rfl) ?_
    refine va_get (D := G.1) (ci := 9) (v := .ref (a0 11)) (C := RX9) (T := TX9) (N := 15) hx hb hts inlX9 hown hK hPD.1 0 rfl rfl 11 (by decide) (hts _ gw_383) (fun _ h9 => h9) rfl dX9_count_101 ?_
    refine va_get (D := G.1) (ci := 2) (v := .int (f4 9)) (C := RX2) (T := TX2) (N := 10) hx hb hts inlX2 hown hK hPD.1 14 rfl rfl 9 (by decide) (hts _ gw_384) (fun _ h9 => h9) rfl dX9_count_104 ?_
    obtain rfl := Option.some.inj h
    exact eI C0 hPD.1 hPD.2 hS rfl dX9_count_107
  have h := (if_neg cc6).symm.trans h
  by_cases cc7 : p1 = 7
  · have h := (if_pos cc7).symm.trans h
    refine lv_swT (tgt := 108) (k := 7) hx hb dX9_count_1 cc7 (by decide) (by decide) ?_
    refine lv_aload_n hx hb dX9_count_108 rfl (lv_at hl 0 rfl) ?_
    refine va_get (D := G.1) (ci := 9) (v := .ref (a0 0)) (C := RX9) (T := TX9) (N := 15) hx hb hts inlX9 hown hK hPD.1 0 rfl rfl 0 (by decide) (hts _ gw_363) (fun _ h9 => h9) rfl dX9_count_109 ?_
    refine va_get (D := G.1) (ci := 7) (v := .int (f1 1)) (C := RX7) (T := TX7) (N := 6) hx hb hts inlX7 hown hK hPD.1 2 rfl rfl 1 (by decide) (hts _ gw_364) (fun _ h9 => h9) rfl dX9_count_112 ?_
    obtain rfl := Option.some.inj h
    exact eI C0 hPD.1 hPD.2 hS rfl dX9_count_115
  have h := (if_neg cc7).symm.trans h
  by_cases cc8 : p1 = 8
  · have h := (if_pos cc8).symm.trans h
    refine lv_swT (tgt := 116) (k := 8) hx hb dX9_count_1 cc8 (by decide) (by decide) ?_
    refine lv_aload_n hx hb dX9_count_116 rfl (lv_at hl 0 rfl) ?_
    refine va_get (D := G.1) (ci := 9) (v := .ref (a0 2)) (C := RX9) (T := TX9) (N := 15) hx hb hts inlX9 hown hK hPD.1 0 rfl rfl 2 (by decide) (hts _ gw_353) (fun _ h9 => h9) rfl dX9_count_117 ?_
    refine va_get (D := G.1) (ci := 6) (v := .int (f3 9)) (C := RX6) (T := TX6) (N := 10) hx hb hts inlX6 hown hK hPD.1 8 rfl rfl 9 (by decide) (hts _ gw_362) (fun _ h9 => h9) rfl dX9_count_120 ?_
    obtain rfl := Option.some.inj h
    exact eI C0 hPD.1 hPD.2 hS rfl dX9_count_123
  have h := (if_neg cc8).symm.trans h
  refine lv_swTD (tgt := 124) (ks := [0, 1, 2, 3, 4, 5, 6, 7, 8]) hx hb dX9_count_1 (by decide) (by decide) ⟨cc0, cc1, cc2, cc3, cc4, cc5, cc6, cc7, cc8, trivial⟩ (by decide) ?_
  refine lv_iconst (v := (-1)) hx hb dX9_count_124 (by decide) ?_
  obtain rfl := Option.some.inj h
  exact eI C0 hPD.1 hPD.2 hS rfl dX9_count_125
abbrev rmX9_check : Room := { frames := 3, cells := 0, slots := 0, locals := 64 }
set_option maxRecDepth 100000 in
set_option maxHeartbeats 4000000 in
theorem ww_f9_check_b67  (C0 : Cx cX9_check 4 (some .int) RX9 p s m args meth c G DA) {h0 : Nat} {a0 : Nat → Nat} {wk : Option Nat} {a1 : Nat → Nat} {a2 : Nat → Nat} {a3 : Nat → Nat} {f0 : Nat → Int32} {A0 : Nat → Nat → Int32} {A1 : Nat → Nat → Int32} {f2 : Nat → Int32} {A2 : Nat → Nat → Int32} {f3 : Nat → Int32} {A3 : Nat → Nat → Int32} {p1 : Int32}  {k34 : (Nat → Int32) → Int32 → Option (Int32 × (Nat → Int32))} {res : Int32 × (Nat → Int32)} (hk34 : ∀ (f1 : Nat → Int32) (l2 : Int32), k34 f1 l2 = some res → ∀ (H : Heap) (locs : List Loc) (ls : Array Slot), WD G DA (wX9 G h0 a0 wk f0 A0 ++ (wX7 G (a0 0) a1 f1 A1 ++ (wX1 G (a0 1) a2 f2 A2 ++ (wX6 G (a0 2) a3 f3 A3)))) H → va_S DA s.heap H locs → lv_has ls 4 [(0, .ref h0), (1, .int p1), (2, .int l2)] → W p l e rmX9_check s m args below meth c H locs 0 0 (MQ below (QI G DA res.1 (wX9 G h0 a0 wk f0 A0 ++ (wX7 G (a0 0) a1 res.2 A1 ++ (wX1 G (a0 1) a2 f2 A2 ++ (wX6 G (a0 2) a3 f3 A3))))) args s 0 0 DA) (F0 m 34 ls [])) : ∀ (f1 : Nat → Int32) (l2 : Int32) (s0 : Int32), f9_check_b67 f0 A0 A1 f2 A2 f3 A3 p1 k34 f1 l2 s0 = some res → ∀ (H : Heap) (locs : List Loc) (ls : Array Slot), WD G DA (wX9 G h0 a0 wk f0 A0 ++ (wX7 G (a0 0) a1 f1 A1 ++ (wX1 G (a0 1) a2 f2 A2 ++ (wX6 G (a0 2) a3 f3 A3)))) H → va_S DA s.heap H locs → lv_has ls 4 [(0, .ref h0), (1, .int p1), (2, .int l2)] → W p l e rmX9_check s m args below meth c H locs 0 0 (MQ below (QI G DA res.1 (wX9 G h0 a0 wk f0 A0 ++ (wX7 G (a0 0) a1 res.2 A1 ++ (wX1 G (a0 1) a2 f2 A2 ++ (wX6 G (a0 2) a3 f3 A3))))) args s 0 0 DA) (F0 m 67 ls [.int s0]) := by
  obtain ⟨hx, hb, hml, hown, hts⟩ := C0.1
  have hK := C0.2.2.2.1
  intro f1 l2 s0 h _ _ _ hPD hS hl
  unfold f9_check_b67 at h
  refine lv_istore_n (lv' := [(3, .int s0), (0, .ref h0), (1, .int p1), (2, .int l2)]) hx hb dX9_check_67 rfl hl (by decide) rfl (fun ls hl => ?_)
  refine lv_aload_n hx hb dX9_check_68 rfl (lv_at hl 1 rfl) ?_
  refine va_get (D := G.1) (ci := 9) (v := .ref (a0 0)) (C := RX9) (T := TX9) (N := 15) hx hb hts inlX9 hown hK hPD.1 0 rfl rfl 0 (by decide) (hts _ gw_363) (fun _ h9 => h9) rfl dX9_check_69 ?_
  refine lv_iload_n hx hb dX9_check_72 rfl (lv_at hl 3 rfl) ?_
  refine kVI (As := [.int l2]) (rest := []) C0 (kt_X7_byteAt l G (a0 0) a1 f1 A1 l2) gi_V_X9_224_X7_byteAt (n := 1) rfl (by decide +kernel) rfl ⟨rfl, rfl, Nat.le_of_ble_eq_true rfl, Nat.le_of_ble_eq_true rfl⟩ hPD hS 2 7 rfl rfl rfl [2, 3] [0, 1, 4, 5, 6, 7, 8, 9, 10, 11, 12, 13] [0, 1, 12, 13, 2, 3, 4, 5, 6, 7, 8, 9, 10, 11] (wr := (wX9 G h0 a0 wk f0 A0 ++ (wX1 G (a0 1) a2 f2 A2 ++ (wX6 G (a0 2) a3 f3 A3)))) (wN := (wX9 G h0 a0 wk f0 A0 ++ (wX7 G (a0 0) a1 f1 A1 ++ (wX1 G (a0 1) a2 f2 A2 ++ (wX6 G (a0 2) a3 f3 A3))))) rfl rfl rfl rfl rfl hl.1 (Nat.le_of_ble_eq_true rfl) dX9_check_73 (fun H locs hPD hS => ?_)
  refine lv_iload_n hx hb dX9_check_76 rfl (lv_at hl 0 rfl) ?_
  refine lv_icmp_eq (tgt := 82) hx hb dX9_check_77 (by decide) (fun cc1 => ?_) (fun cc1 => ?_)
  · have h := (if_pos cc1).symm.trans h
    refine lv_iinc (v := l2 + 1) (lv' := [(2, .int (l2 + 1)), (3, .int s0), (0, .ref h0), (1, .int p1)]) hx hb dX9_check_82 hl (k := 3) rfl rfl (by decide) rfl (fun ls hl => ?_)
    refine lv_goto (tgt := 34) hx hb dX9_check_85 (by decide) ?_
    exact hk34 f1 (l2 + 1) h _ _ _ hPD hS (lv_sub hl [2, 3, 0] rfl)
  · have h := (if_neg cc1).symm.trans h
    refine lv_iload_n hx hb dX9_check_80 rfl (lv_at hl 3 rfl) ?_
    obtain rfl := Option.some.inj h
    exact eI C0 hPD.1 hPD.2 hS rfl dX9_check_81
set_option maxRecDepth 100000 in
set_option maxHeartbeats 4000000 in
theorem ww_f9_check_b34  (C0 : Cx cX9_check 4 (some .int) RX9 p s m args meth c G DA) {h0 : Nat} {a0 : Nat → Nat} {wk : Option Nat} {a1 : Nat → Nat} {a2 : Nat → Nat} {a3 : Nat → Nat} {f0 : Nat → Int32} {A0 : Nat → Nat → Int32} {A1 : Nat → Nat → Int32} {f2 : Nat → Int32} {A2 : Nat → Nat → Int32} {f3 : Nat → Int32} {A3 : Nat → Nat → Int32} {p1 : Int32}  {k34 : (Nat → Int32) → Int32 → Option (Int32 × (Nat → Int32))} {res : Int32 × (Nat → Int32)}  (hk34 : ∀ (f1 : Nat → Int32) (l2 : Int32), k34 f1 l2 = some res → ∀ (H : Heap) (locs : List Loc) (ls : Array Slot), WD G DA (wX9 G h0 a0 wk f0 A0 ++ (wX7 G (a0 0) a1 f1 A1 ++ (wX1 G (a0 1) a2 f2 A2 ++ (wX6 G (a0 2) a3 f3 A3)))) H → va_S DA s.heap H locs → lv_has ls 4 [(0, .ref h0), (1, .int p1), (2, .int l2)] → W p l e rmX9_check s m args below meth c H locs 0 0 (MQ below (QI G DA res.1 (wX9 G h0 a0 wk f0 A0 ++ (wX7 G (a0 0) a1 res.2 A1 ++ (wX1 G (a0 1) a2 f2 A2 ++ (wX6 G (a0 2) a3 f3 A3))))) args s 0 0 DA) (F0 m 34 ls [])) : ∀ (f1 : Nat → Int32) (l2 : Int32), f9_check_b34 f0 A0 A1 f2 A2 f3 A3 p1  k34 f1 l2 = some res → ∀ (H : Heap) (locs : List Loc) (ls : Array Slot), WD G DA (wX9 G h0 a0 wk f0 A0 ++ (wX7 G (a0 0) a1 f1 A1 ++ (wX1 G (a0 1) a2 f2 A2 ++ (wX6 G (a0 2) a3 f3 A3)))) H → va_S DA s.heap H locs → lv_has ls 4 [(0, .ref h0), (1, .int p1), (2, .int l2)] → W p l e rmX9_check s m args below meth c H locs 0 0 (MQ below (QI G DA res.1 (wX9 G h0 a0 wk f0 A0 ++ (wX7 G (a0 0) a1 res.2 A1 ++ (wX1 G (a0 1) a2 f2 A2 ++ (wX6 G (a0 2) a3 f3 A3))))) args s 0 0 DA) (F0 m 34 ls []) := by
  obtain ⟨hx, hb, hml, hown, hts⟩ := C0.1
  have hK := C0.2.2.2.1
  intro f1 l2 h _ _ _ hPD hS hl
  unfold f9_check_b34 at h
  refine lv_iload_n hx hb dX9_check_34 rfl (lv_at hl 2 rfl) ?_
  refine lv_iload_n hx hb dX9_check_35 rfl (lv_at hl 1 rfl) ?_
  refine lv_icmp_ge (tgt := 88) hx hb dX9_check_36 (by decide) (fun cc1 => ?_) (fun cc1 => ?_)
  · have h := (if_pos cc1).symm.trans h
    refine lv_iconst (v := (-1)) hx hb dX9_check_88 (by decide) ?_
    obtain rfl := Option.some.inj h
    exact eI C0 hPD.1 hPD.2 hS rfl dX9_check_89
  · have h := (if_neg cc1).symm.trans h
    refine lv_aload_n hx hb dX9_check_39 rfl (lv_at hl 0 rfl) ?_
    refine va_get (D := G.1) (ci := 9) (v := .ref (a0 1)) (C := RX9) (T := TX9) (N := 15) hx hb hts inlX9 hown hK hPD.1 0 rfl rfl 1 (by decide) (hts _ gw_351) (fun _ h9 => h9) rfl dX9_check_40 ?_
    refine lv_iload_n hx hb dX9_check_43 rfl (lv_at hl 2 rfl) ?_
    refine kVI (As := [.int l2]) (rest := []) C0 (kt_X1_isTold l G (a0 1) a2 f2 A2 l2) gi_V_X9_108_X1_isTold (n := 1) rfl (by decide +kernel) rfl ⟨rfl, rfl, Nat.le_of_ble_eq_true rfl, Nat.le_of_ble_eq_true rfl⟩ hPD hS 4 1 rfl rfl rfl [4, 5, 6, 7] [0, 1, 2, 3, 8, 9, 10, 11, 12, 13] [0, 1, 2, 3, 10, 11, 12, 13, 4, 5, 6, 7, 8, 9] (wr := (wX9 G h0 a0 wk f0 A0 ++ (wX7 G (a0 0) a1 f1 A1 ++ (wX6 G (a0 2) a3 f3 A3)))) (wN := (wX9 G h0 a0 wk f0 A0 ++ (wX7 G (a0 0) a1 f1 A1 ++ (wX1 G (a0 1) a2 f2 A2 ++ (wX6 G (a0 2) a3 f3 A3))))) rfl rfl rfl rfl rfl hl.1 (Nat.le_of_ble_eq_true rfl) dX9_check_44 (fun H locs hPD hS => ?_)
    refine lv_if_eq (tgt := 64) hx hb dX9_check_47 (by decide) (fun cc1 => ?_) (fun cc1 => ?_)
    · have h := (if_pos cc1).symm.trans h
      refine lv_sipush (v := 255) hx hb dX9_check_64 (by decide) ?_
      exact ww_f9_check_b67 C0 hk34 f1 l2 255 h _ _ _ hPD hS (lv_sub hl [0, 1, 2] rfl)
    · have h := (if_neg cc1).symm.trans h
      refine lv_aload_n hx hb dX9_check_50 rfl (lv_at hl 0 rfl) ?_
      refine va_get (D := G.1) (ci := 9) (v := .ref (a0 2)) (C := RX9) (T := TX9) (N := 15) hx hb hts inlX9 hown hK hPD.1 0 rfl rfl 2 (by decide) (hts _ gw_353) (fun _ h9 => h9) rfl dX9_check_51 ?_
      refine va_get (D := G.1) (ci := 6) (v := .ref (a3 0)) (C := RX6) (T := TX6) (N := 10) hx hb hts inlX6 hown hK hPD.1 8 rfl rfl 0 (by decide) (hts _ gw_354) (fun _ h9 => h9) rfl dX9_check_54 ?_
      refine lv_iload_n hx hb dX9_check_57 rfl (lv_at hl 2 rfl) ?_
      refine kSI (As := [.ref (a3 0), .int l2]) (rest := []) C0 (kt_X9_at l G (a3 0) 16 (A3 0) l2 (by decide)) gi_S_X9_188_X9_at (n := 2) rfl (by decide +kernel) ⟨rfl, rfl, Nat.le_of_ble_eq_true rfl, Nat.le_of_ble_eq_true rfl⟩ hPD hS [9] [0, 1, 2, 3, 4, 5, 6, 7, 8, 10, 11, 12, 13] [0, 1, 2, 3, 4, 5, 6, 7, 8, 13, 9, 10, 11, 12] (wr := pick (wX9 G h0 a0 wk f0 A0 ++ (wX7 G (a0 0) a1 f1 A1 ++ (wX1 G (a0 1) a2 f2 A2 ++ (wX6 G (a0 2) a3 f3 A3)))) [0, 1, 2, 3, 4, 5, 6, 7, 8, 10, 11, 12, 13]) (wN := (wX9 G h0 a0 wk f0 A0 ++ (wX7 G (a0 0) a1 f1 A1 ++ (wX1 G (a0 1) a2 f2 A2 ++ (wX6 G (a0 2) a3 f3 A3))))) rfl rfl rfl rfl rfl hl.1 (Nat.le_of_ble_eq_true rfl) dX9_check_58 (fun H locs hPD hS => ?_)
      refine lv_goto (tgt := 67) hx hb dX9_check_61 (by decide) ?_
      exact ww_f9_check_b67 C0 hk34 f1 l2 (f9_at 16 (A3 0) l2) h _ _ _ hPD hS (lv_sub hl [0, 1, 2] rfl)
set_option maxRecDepth 100000 in
set_option maxHeartbeats 4000000 in
theorem ww_f9_check_l34  (C0 : Cx cX9_check 4 (some .int) RX9 p s m args meth c G DA) {h0 : Nat} {a0 : Nat → Nat} {wk : Option Nat} {a1 : Nat → Nat} {a2 : Nat → Nat} {a3 : Nat → Nat} {f0 : Nat → Int32} {A0 : Nat → Nat → Int32} {A1 : Nat → Nat → Int32} {f2 : Nat → Int32} {A2 : Nat → Nat → Int32} {f3 : Nat → Int32} {A3 : Nat → Nat → Int32} {p1 : Int32}   {res : Int32 × (Nat → Int32)}  : ∀ (n : Nat) (f1 : Nat → Int32) (l2 : Int32), f9_check_l34 f0 A0 A1 f2 A2 f3 A3 p1  n f1 l2 = some res → ∀ (H : Heap) (locs : List Loc) (ls : Array Slot), WD G DA (wX9 G h0 a0 wk f0 A0 ++ (wX7 G (a0 0) a1 f1 A1 ++ (wX1 G (a0 1) a2 f2 A2 ++ (wX6 G (a0 2) a3 f3 A3)))) H → va_S DA s.heap H locs → lv_has ls 4 [(0, .ref h0), (1, .int p1), (2, .int l2)] → W p l e rmX9_check s m args below meth c H locs 0 0 (MQ below (QI G DA res.1 (wX9 G h0 a0 wk f0 A0 ++ (wX7 G (a0 0) a1 res.2 A1 ++ (wX1 G (a0 1) a2 f2 A2 ++ (wX6 G (a0 2) a3 f3 A3))))) args s 0 0 DA) (F0 m 34 ls []) := by
  intro n
  induction n with
  | zero => intro f1 l2 h; cases h
  | succ n ih => intro f1 l2 h; exact ww_f9_check_b34 C0  ih f1 l2 h
set_option maxRecDepth 100000 in
set_option maxHeartbeats 4000000 in
theorem kt_X9_check (l : Launch) (G : Gp) (h0 : Nat) (a0 : Nat → Nat) (wk : Option Nat) (a1 : Nat → Nat) (a2 : Nat → Nat) (a3 : Nat → Nat) (f0 : Nat → Int32) (A0 : Nat → Nat → Int32) (f1 : Nat → Int32) (A1 : Nat → Nat → Int32) (f2 : Nat → Int32) (A2 : Nat → Nat → Int32) (f3 : Nat → Int32) (A3 : Nat → Nat → Int32) (p1 : Int32) : ∀ {r : Int32 × (Nat → Int32)}, f9_check f0 A0 f1 A1 f2 A2 f3 A3 p1 = some r → CtrI l yX9_check cX9_check 4 (some .int) rmX9_check G [.ref h0, .int p1] (wX9 G h0 a0 wk f0 A0 ++ (wX7 G (a0 0) a1 f1 A1 ++ (wX1 G (a0 1) a2 f2 A2 ++ (wX6 G (a0 2) a3 f3 A3)))) r.1 (wX9 G h0 a0 wk f0 A0 ++ (wX7 G (a0 0) a1 r.2 A1 ++ (wX1 G (a0 1) a2 f2 A2 ++ (wX6 G (a0 2) a3 f3 A3)))) := by
  intro res h
  refine ctrI_of (cc := cX9_check) (maxL := 4) (ret := (some .int)) (by decide +kernel) rfl (Nat.le_of_ble_eq_true rfl) (fun p e s m below meth c DA C0 hP hD ls hl => ?_)
  have hPD : WD G DA (wX9 G h0 a0 wk f0 A0 ++ (wX7 G (a0 0) a1 f1 A1 ++ (wX1 G (a0 1) a2 f2 A2 ++ (wX6 G (a0 2) a3 f3 A3)))) s.heap := ⟨hP, hD⟩
  have hS : va_S DA s.heap s.heap [] := va_S.rf
  have hl : lv_has ls 4 [(0, .ref h0), (1, .int p1)] := hl
  obtain ⟨hx, hb, hml, hown, hts⟩ := C0.1
  have hK := C0.2.2.2.1
  unfold f9_check at h
  refine lv_iload_n hx hb dX9_check_0 rfl (lv_at hl 1 rfl) ?_
  refine lv_iconst (v := 0) hx hb dX9_check_1 (by decide) ?_
  refine lv_bipush (v := 16) hx hb dX9_check_2 (by decide) ?_
  refine kSI (As := [.int p1, .int 0, .int 16]) (rest := []) C0 (kt_X9_within l G  p1 0 16) gi_S_X9_90_X9_within (n := 3) rfl (by decide +kernel) ⟨rfl, rfl, Nat.le_of_ble_eq_true rfl, Nat.le_of_ble_eq_true rfl⟩ hPD hS [] [0, 1, 2, 3, 4, 5, 6, 7, 8, 9, 10, 11, 12, 13] [0, 1, 2, 3, 4, 5, 6, 7, 8, 9, 10, 11, 12, 13] (wr := (wX9 G h0 a0 wk f0 A0 ++ (wX7 G (a0 0) a1 f1 A1 ++ (wX1 G (a0 1) a2 f2 A2 ++ (wX6 G (a0 2) a3 f3 A3))))) (wN := (wX9 G h0 a0 wk f0 A0 ++ (wX7 G (a0 0) a1 f1 A1 ++ (wX1 G (a0 1) a2 f2 A2 ++ (wX6 G (a0 2) a3 f3 A3))))) rfl rfl rfl rfl rfl hl.1 (Nat.le_of_ble_eq_true rfl) dX9_check_4 (fun H locs hPD hS => ?_)
  refine lv_if_eq (tgt := 21) hx hb dX9_check_7 (by decide) (fun cc1 => ?_) (fun cc1 => ?_)
  · have h := (if_pos cc1).symm.trans h
    refine lv_bipush (v := (-2)) hx hb dX9_check_21 (by decide) ?_
    obtain rfl := Option.some.inj h
    exact eI C0 hPD.1 hPD.2 hS rfl dX9_check_23
  · have h := (if_neg cc1).symm.trans h
    refine lv_aload_n hx hb dX9_check_10 rfl (lv_at hl 0 rfl) ?_
    refine va_get (D := G.1) (ci := 9) (v := .ref (a0 0)) (C := RX9) (T := TX9) (N := 15) hx hb hts inlX9 hown hK hPD.1 0 rfl rfl 0 (by decide) (hts _ gw_363) (fun _ h9 => h9) rfl dX9_check_11 ?_
    refine lv_iload_n hx hb dX9_check_14 rfl (lv_at hl 1 rfl) ?_
    refine kVI (As := [.int p1]) (rest := []) C0 (kt_X7_holds l G (a0 0) a1 f1 A1 p1) gi_V_X9_132_X7_holds (n := 1) rfl (by decide +kernel) rfl ⟨rfl, rfl, Nat.le_of_ble_eq_true rfl, Nat.le_of_ble_eq_true rfl⟩ hPD hS 2 7 rfl rfl rfl [2, 3] [0, 1, 4, 5, 6, 7, 8, 9, 10, 11, 12, 13] [0, 1, 12, 13, 2, 3, 4, 5, 6, 7, 8, 9, 10, 11] (wr := (wX9 G h0 a0 wk f0 A0 ++ (wX1 G (a0 1) a2 f2 A2 ++ (wX6 G (a0 2) a3 f3 A3)))) (wN := (wX9 G h0 a0 wk f0 A0 ++ (wX7 G (a0 0) a1 f1 A1 ++ (wX1 G (a0 1) a2 f2 A2 ++ (wX6 G (a0 2) a3 f3 A3))))) rfl rfl rfl rfl rfl hl.1 (Nat.le_of_ble_eq_true rfl) dX9_check_15 (fun H locs hPD hS => ?_)
    refine lv_if_ne (tgt := 24) hx hb dX9_check_18 (by decide) (fun cc1 => ?_) (fun cc1 => ?_)
    · have h := (if_neg cc1).symm.trans h
      refine lv_aload_n hx hb dX9_check_24 rfl (lv_at hl 0 rfl) ?_
      refine va_get (D := G.1) (ci := 9) (v := .ref (a0 0)) (C := RX9) (T := TX9) (N := 15) hx hb hts inlX9 hown hK hPD.1 0 rfl rfl 0 (by decide) (hts _ gw_363) (fun _ h9 => h9) rfl dX9_check_25 ?_
      refine lv_iload_n hx hb dX9_check_28 rfl (lv_at hl 1 rfl) ?_
      obtain ⟨z_1, ez_1, h⟩ := lvl h
      have kc := kt_X7_open l G (a0 0) a1 f1 A1 p1
      rw [← ez_1] at kc
      clear ez_1
      refine kVV (As := [.int p1]) (rest := []) C0 (kc) gi_V_X9_135_X7_open (n := 1) rfl (by decide +kernel) rfl ⟨rfl, rfl, Nat.le_of_ble_eq_true rfl, Nat.le_of_ble_eq_true rfl⟩ hPD hS 2 7 rfl rfl rfl [2, 3] [0, 1, 4, 5, 6, 7, 8, 9, 10, 11, 12, 13] [0, 1, 12, 13, 2, 3, 4, 5, 6, 7, 8, 9, 10, 11] (wr := (wX9 G h0 a0 wk f0 A0 ++ (wX1 G (a0 1) a2 f2 A2 ++ (wX6 G (a0 2) a3 f3 A3)))) (wN := (wX9 G h0 a0 wk f0 A0 ++ (wX7 G (a0 0) a1 z_1 A1 ++ (wX1 G (a0 1) a2 f2 A2 ++ (wX6 G (a0 2) a3 f3 A3))))) rfl rfl rfl rfl rfl hl.1 (Nat.le_of_ble_eq_true rfl) dX9_check_29 (fun H locs hPD hS => ?_)
      refine lv_iconst (v := 0) hx hb dX9_check_32 (by decide) ?_
      refine lv_istore_n (lv' := [(2, .int 0), (0, .ref h0), (1, .int p1)]) hx hb dX9_check_33 rfl hl (by decide) rfl (fun ls hl => ?_)
      exact ww_f9_check_l34 C0 NF z_1 0 h _ _ _ hPD hS (lv_sub hl [1, 2, 0] rfl)
    · have h := (if_pos cc1).symm.trans h
      refine lv_bipush (v := (-2)) hx hb dX9_check_21 (by decide) ?_
      obtain rfl := Option.some.inj h
      exact eI C0 hPD.1 hPD.2 hS rfl dX9_check_23
abbrev rmX9_keep : Room := { frames := 2, cells := 0, slots := 0, locals := 44 }
set_option maxRecDepth 100000 in
set_option maxHeartbeats 4000000 in
theorem kt_X9_keep (l : Launch) (G : Gp) (h0 : Nat) (a0 : Nat → Nat) (wk : Option Nat) (a1 : Nat → Nat) (a2 : Nat → Nat) (f0 : Nat → Int32) (A0 : Nat → Nat → Int32) (f1 : Nat → Int32) (A1 : Nat → Nat → Int32) (f2 : Nat → Int32) (A2 : Nat → Nat → Int32) : ∀ {r : Int32 × (Nat → Int32) × (Nat → Nat → Int32) × (Nat → Int32)}, f9_keep f0 A0 f1 A1 f2 A2 = some r → CtrI l yX9_keep cX9_keep 1 (some .int) rmX9_keep G [.ref h0] (wX9 G h0 a0 wk f0 A0 ++ (wX6 G (a0 2) a1 f1 A1 ++ (wX6 G (a0 4) a2 f2 A2))) r.1 (wX9 G h0 a0 wk r.2.1 A0 ++ (wX6 G (a0 2) a1 f1 A1 ++ (wX6 G (a0 4) a2 r.2.2.2 r.2.2.1))) := by
  intro res h
  refine ctrI_of (cc := cX9_keep) (maxL := 1) (ret := (some .int)) (by decide +kernel) rfl (Nat.le_of_ble_eq_true rfl) (fun p e s m below meth c DA C0 hP hD ls hl => ?_)
  have hPD : WD G DA (wX9 G h0 a0 wk f0 A0 ++ (wX6 G (a0 2) a1 f1 A1 ++ (wX6 G (a0 4) a2 f2 A2))) s.heap := ⟨hP, hD⟩
  have hS : va_S DA s.heap s.heap [] := va_S.rf
  have hl : lv_has ls 1 [(0, .ref h0)] := hl
  obtain ⟨hx, hb, hml, hown, hts⟩ := C0.1
  have hK := C0.2.2.2.1
  unfold f9_keep at h
  refine lv_aload_n hx hb dX9_keep_0 rfl (lv_at hl 0 rfl) ?_
  refine va_get (D := G.1) (ci := 9) (v := .ref (a0 4)) (C := RX9) (T := TX9) (N := 15) hx hb hts inlX9 hown hK hPD.1 0 rfl rfl 4 (by decide) (hts _ gw_452) (fun _ h9 => h9) rfl dX9_keep_1 ?_
  refine lv_aload_n hx hb dX9_keep_4 rfl (lv_at hl 0 rfl) ?_
  refine va_get (D := G.1) (ci := 9) (v := .ref (a0 2)) (C := RX9) (T := TX9) (N := 15) hx hb hts inlX9 hown hK hPD.1 0 rfl rfl 2 (by decide) (hts _ gw_353) (fun _ h9 => h9) rfl dX9_keep_5 ?_
  obtain ⟨q_1, hq_1, h⟩ := ob2 h
  refine kVV (As := [.ref (a0 2)]) (rest := []) C0 (kt_X6_copy l G (a0 4) a2 (a0 2) a1 f2 A2 f1 A1 hq_1) gi_V_X9_178_X6_copy (n := 1) rfl (by decide +kernel) rfl ⟨rfl, rfl, Nat.le_of_ble_eq_true rfl, Nat.le_of_ble_eq_true rfl⟩ hPD hS 8 6 rfl rfl rfl [8, 9, 10, 11, 12, 13, 2, 3, 4, 5, 6, 7] [0, 1] [0, 1, 8, 9, 10, 11, 12, 13, 2, 3, 4, 5, 6, 7] (wr := (wX9 G h0 a0 wk f0 A0)) (wN := (wX9 G h0 a0 wk f0 A0 ++ (wX6 G (a0 2) a1 f1 A1 ++ (wX6 G (a0 4) a2 q_1.2 q_1.1)))) rfl rfl rfl rfl rfl hl.1 (Nat.le_of_ble_eq_true rfl) dX9_keep_8 (fun H locs hPD hS => ?_)
  refine lv_aload_n hx hb dX9_keep_11 rfl (lv_at hl 0 rfl) ?_
  refine lv_iconst (v := 1) hx hb dX9_keep_12 (by decide) ?_
  refine va_put (D := G.1) (ci := 9) (v := .int 1) (ty := .boolean) (C := RX9) (T := TX9) (N := 15) hx hb hts inlX9 tyX9 tyX9_ok nmX9 hown hK hPD.1 hPD.2 hS 0 rfl rfl 14 (by decide) (hts _ gw_453) (fun _ h9 => h9) rfl (by decide +kernel) rfl rfl (Nat.le_of_ble_eq_true rfl) dX9_keep_13 (fun H locs hP hD hS => ?_)
  obtain ⟨f0_2, ef0_2, h⟩ := lvl h
  have hPD : WD G DA (wX9 G h0 a0 wk f0_2 A0 ++ (wX6 G (a0 2) a1 f1 A1 ++ (wX6 G (a0 4) a2 q_1.2 q_1.1))) H := by rw [ef0_2]; exact ⟨hP, hD⟩
  clear ef0_2 hP hD
  refine lv_aload_n hx hb dX9_keep_16 rfl (lv_at hl 0 rfl) ?_
  refine va_get (D := G.1) (ci := 9) (v := .ref (a0 2)) (C := RX9) (T := TX9) (N := 15) hx hb hts inlX9 hown hK hPD.1 0 rfl rfl 2 (by decide) (hts _ gw_353) (fun _ h9 => h9) rfl dX9_keep_17 ?_
  refine va_get (D := G.1) (ci := 6) (v := .int (f1 8)) (C := RX6) (T := TX6) (N := 10) hx hb hts inlX6 hown hK hPD.1 2 rfl rfl 8 (by decide) (hts _ gw_442) (fun _ h9 => h9) rfl dX9_keep_20 ?_
  obtain rfl := Option.some.inj h
  exact eI C0 hPD.1 hPD.2 hS rfl dX9_keep_23
abbrev rmX9_undo : Room := { frames := 2, cells := 0, slots := 0, locals := 44 }
set_option maxRecDepth 100000 in
set_option maxHeartbeats 4000000 in
theorem kt_X9_undo (l : Launch) (G : Gp) (h0 : Nat) (a0 : Nat → Nat) (wk : Option Nat) (a1 : Nat → Nat) (a2 : Nat → Nat) (f0 : Nat → Int32) (A0 : Nat → Nat → Int32) (f1 : Nat → Int32) (A1 : Nat → Nat → Int32) (f2 : Nat → Int32) (A2 : Nat → Nat → Int32) : ∀ {r : Int32 × (Nat → Nat → Int32) × (Nat → Int32)}, f9_undo f0 A0 f1 A1 f2 A2 = some r → CtrI l yX9_undo cX9_undo 1 (some .boolean) rmX9_undo G [.ref h0] (wX9 G h0 a0 wk f0 A0 ++ (wX6 G (a0 2) a1 f1 A1 ++ (wX6 G (a0 4) a2 f2 A2))) r.1 (wX9 G h0 a0 wk f0 A0 ++ (wX6 G (a0 2) a1 r.2.2 r.2.1 ++ (wX6 G (a0 4) a2 f2 A2))) := by
  intro res h
  refine ctrI_of (cc := cX9_undo) (maxL := 1) (ret := (some .boolean)) (by decide +kernel) rfl (Nat.le_of_ble_eq_true rfl) (fun p e s m below meth c DA C0 hP hD ls hl => ?_)
  have hPD : WD G DA (wX9 G h0 a0 wk f0 A0 ++ (wX6 G (a0 2) a1 f1 A1 ++ (wX6 G (a0 4) a2 f2 A2))) s.heap := ⟨hP, hD⟩
  have hS : va_S DA s.heap s.heap [] := va_S.rf
  have hl : lv_has ls 1 [(0, .ref h0)] := hl
  obtain ⟨hx, hb, hml, hown, hts⟩ := C0.1
  have hK := C0.2.2.2.1
  unfold f9_undo at h
  refine lv_aload_n hx hb dX9_undo_0 rfl (lv_at hl 0 rfl) ?_
  refine va_get (D := G.1) (ci := 9) (v := .int (f0 14)) (C := RX9) (T := TX9) (N := 15) hx hb hts inlX9 hown hK hPD.1 0 rfl rfl 14 (by decide) (hts _ gw_453) (fun _ h9 => h9) rfl dX9_undo_1 ?_
  refine lv_if_eq (tgt := 18) hx hb dX9_undo_4 (by decide) (fun cc1 => ?_) (fun cc1 => ?_)
  · have h := (if_pos cc1).symm.trans h
    refine lv_aload_n hx hb dX9_undo_18 rfl (lv_at hl 0 rfl) ?_
    refine va_get (D := G.1) (ci := 9) (v := .int (f0 14)) (C := RX9) (T := TX9) (N := 15) hx hb hts inlX9 hown hK hPD.1 0 rfl rfl 14 (by decide) (hts _ gw_453) (fun _ h9 => h9) rfl dX9_undo_19 ?_
    obtain ⟨hz, h⟩ := ob h
    obtain rfl := Option.some.inj h
    exact eZ C0 hPD.1 hPD.2 hS rfl (nbool (Classical.not_not.mp hz)) dX9_undo_22
  · have h := (if_neg cc1).symm.trans h
    refine lv_aload_n hx hb dX9_undo_7 rfl (lv_at hl 0 rfl) ?_
    refine va_get (D := G.1) (ci := 9) (v := .ref (a0 2)) (C := RX9) (T := TX9) (N := 15) hx hb hts inlX9 hown hK hPD.1 0 rfl rfl 2 (by decide) (hts _ gw_353) (fun _ h9 => h9) rfl dX9_undo_8 ?_
    refine lv_aload_n hx hb dX9_undo_11 rfl (lv_at hl 0 rfl) ?_
    refine va_get (D := G.1) (ci := 9) (v := .ref (a0 4)) (C := RX9) (T := TX9) (N := 15) hx hb hts inlX9 hown hK hPD.1 0 rfl rfl 4 (by decide) (hts _ gw_452) (fun _ h9 => h9) rfl dX9_undo_12 ?_
    obtain ⟨q_1, hq_1, h⟩ := ob2 h
    refine kVV (As := [.ref (a0 4)]) (rest := []) C0 (kt_X6_copy l G (a0 2) a1 (a0 4) a2 f1 A1 f2 A2 hq_1) gi_V_X9_178_X6_copy (n := 1) rfl (by decide +kernel) rfl ⟨rfl, rfl, Nat.le_of_ble_eq_true rfl, Nat.le_of_ble_eq_true rfl⟩ hPD hS 2 6 rfl rfl rfl [2, 3, 4, 5, 6, 7, 8, 9, 10, 11, 12, 13] [0, 1] [0, 1, 2, 3, 4, 5, 6, 7, 8, 9, 10, 11, 12, 13] (wr := (wX9 G h0 a0 wk f0 A0)) (wN := (wX9 G h0 a0 wk f0 A0 ++ (wX6 G (a0 2) a1 q_1.2 q_1.1 ++ (wX6 G (a0 4) a2 f2 A2)))) rfl rfl rfl rfl rfl hl.1 (Nat.le_of_ble_eq_true rfl) dX9_undo_15 (fun H locs hPD hS => ?_)
    refine lv_aload_n hx hb dX9_undo_18 rfl (lv_at hl 0 rfl) ?_
    refine va_get (D := G.1) (ci := 9) (v := .int (f0 14)) (C := RX9) (T := TX9) (N := 15) hx hb hts inlX9 hown hK hPD.1 0 rfl rfl 14 (by decide) (hts _ gw_453) (fun _ h9 => h9) rfl dX9_undo_19 ?_
    obtain ⟨hz, h⟩ := ob h
    obtain rfl := Option.some.inj h
    exact eZ C0 hPD.1 hPD.2 hS rfl (nbool (Classical.not_not.mp hz)) dX9_undo_22
abbrev rmX9_worst : Room := { frames := 3, cells := 0, slots := 0, locals := 64 }
set_option maxRecDepth 100000 in
set_option maxHeartbeats 4000000 in
theorem ww_f9_worst_b7  (C0 : Cx cX9_worst 5 (some .int) RX9 p s m args meth c G DA) {h0 : Nat} {a0 : Nat → Nat} {wk : Option Nat} {a1 : Nat → Nat} {a2 : Nat → Nat} {f0 : Nat → Int32} {A0 : Nat → Nat → Int32} {f1 : Nat → Int32} {A1 : Nat → Nat → Int32} {f2 : Nat → Int32} {A2 : Nat → Nat → Int32}  {k7 : Int32 → Int32 → Int32 → Option (Int32)} {res : Int32}  (hk7 : ∀ (l1 : Int32) (l2 : Int32) (l3 : Int32), k7 l1 l2 l3 = some res → ∀ (H : Heap) (locs : List Loc) (ls : Array Slot), WD G DA (wX9 G h0 a0 wk f0 A0 ++ (wX1 G (a0 1) a1 f1 A1 ++ (wX6 G (a0 2) a2 f2 A2))) H → va_S DA s.heap H locs → lv_has ls 5 [(0, .ref h0), (1, .int l1), (2, .int l2), (3, .int l3)] → W p l e rmX9_worst s m args below meth c H locs 0 0 (MQ below (QI G DA res (wX9 G h0 a0 wk f0 A0 ++ (wX1 G (a0 1) a1 f1 A1 ++ (wX6 G (a0 2) a2 f2 A2)))) args s 0 0 DA) (F0 m 7 ls [])) : ∀ (l1 : Int32) (l2 : Int32) (l3 : Int32), f9_worst_b7 f0 A0 f1 A1 f2 A2  k7 l1 l2 l3 = some res → ∀ (H : Heap) (locs : List Loc) (ls : Array Slot), WD G DA (wX9 G h0 a0 wk f0 A0 ++ (wX1 G (a0 1) a1 f1 A1 ++ (wX6 G (a0 2) a2 f2 A2))) H → va_S DA s.heap H locs → lv_has ls 5 [(0, .ref h0), (1, .int l1), (2, .int l2), (3, .int l3)] → W p l e rmX9_worst s m args below meth c H locs 0 0 (MQ below (QI G DA res (wX9 G h0 a0 wk f0 A0 ++ (wX1 G (a0 1) a1 f1 A1 ++ (wX6 G (a0 2) a2 f2 A2)))) args s 0 0 DA) (F0 m 7 ls []) := by
  obtain ⟨hx, hb, hml, hown, hts⟩ := C0.1
  have hK := C0.2.2.2.1
  intro l1 l2 l3 h _ _ _ hPD hS hl
  unfold f9_worst_b7 at h
  refine lv_iload_n hx hb dX9_worst_7 rfl (lv_at hl 3 rfl) ?_
  refine lv_bipush (v := 16) hx hb dX9_worst_8 (by decide) ?_
  refine lv_icmp_ge (tgt := 66) hx hb dX9_worst_10 (by decide) (fun cc1 => ?_) (fun cc1 => ?_)
  · have h := (if_pos cc1).symm.trans h
    refine lv_iload_n hx hb dX9_worst_66 rfl (lv_at hl 2 rfl) ?_
    obtain rfl := Option.some.inj h
    exact eI C0 hPD.1 hPD.2 hS rfl dX9_worst_67
  · have h := (if_neg cc1).symm.trans h
    refine lv_aload_n hx hb dX9_worst_13 rfl (lv_at hl 0 rfl) ?_
    refine va_get (D := G.1) (ci := 9) (v := .ref (a0 2)) (C := RX9) (T := TX9) (N := 15) hx hb hts inlX9 hown hK hPD.1 0 rfl rfl 2 (by decide) (hts _ gw_353) (fun _ h9 => h9) rfl dX9_worst_14 ?_
    refine va_get (D := G.1) (ci := 6) (v := .ref (a2 0)) (C := RX6) (T := TX6) (N := 10) hx hb hts inlX6 hown hK hPD.1 6 rfl rfl 0 (by decide) (hts _ gw_354) (fun _ h9 => h9) rfl dX9_worst_17 ?_
    refine lv_iload_n hx hb dX9_worst_20 rfl (lv_at hl 3 rfl) ?_
    refine kSI (As := [.ref (a2 0), .int l3]) (rest := []) C0 (kt_X9_at l G (a2 0) 16 (A2 0) l3 (by decide)) gi_S_X9_188_X9_at (n := 2) rfl (by decide +kernel) ⟨rfl, rfl, Nat.le_of_ble_eq_true rfl, Nat.le_of_ble_eq_true rfl⟩ hPD hS [7] [0, 1, 2, 3, 4, 5, 6, 8, 9, 10, 11] [0, 1, 2, 3, 4, 5, 6, 11, 7, 8, 9, 10] (wr := pick (wX9 G h0 a0 wk f0 A0 ++ (wX1 G (a0 1) a1 f1 A1 ++ (wX6 G (a0 2) a2 f2 A2))) [0, 1, 2, 3, 4, 5, 6, 8, 9, 10, 11]) (wN := (wX9 G h0 a0 wk f0 A0 ++ (wX1 G (a0 1) a1 f1 A1 ++ (wX6 G (a0 2) a2 f2 A2)))) rfl rfl rfl rfl rfl hl.1 (Nat.le_of_ble_eq_true rfl) dX9_worst_21 (fun H locs hPD hS => ?_)
    refine lv_aload_n hx hb dX9_worst_24 rfl (lv_at hl 0 rfl) ?_
    refine va_get (D := G.1) (ci := 9) (v := .ref (a0 2)) (C := RX9) (T := TX9) (N := 15) hx hb hts inlX9 hown hK hPD.1 0 rfl rfl 2 (by decide) (hts _ gw_353) (fun _ h9 => h9) rfl dX9_worst_25 ?_
    refine va_get (D := G.1) (ci := 6) (v := .ref (a2 1)) (C := RX6) (T := TX6) (N := 10) hx hb hts inlX6 hown hK hPD.1 6 rfl rfl 1 (by decide) (hts _ gw_356) (fun _ h9 => h9) rfl dX9_worst_28 ?_
    refine lv_iload_n hx hb dX9_worst_31 rfl (lv_at hl 3 rfl) ?_
    refine kSI (As := [.ref (a2 1), .int l3]) (rest := [.int (f9_at 16 (A2 0) l3)]) C0 (kt_X9_at l G (a2 1) 16 (A2 1) l3 (by decide)) gi_S_X9_188_X9_at (n := 2) rfl (by decide +kernel) ⟨rfl, rfl, Nat.le_of_ble_eq_true rfl, Nat.le_of_ble_eq_true rfl⟩ hPD hS [8] [0, 1, 2, 3, 4, 5, 6, 7, 9, 10, 11] [0, 1, 2, 3, 4, 5, 6, 7, 11, 8, 9, 10] (wr := pick (wX9 G h0 a0 wk f0 A0 ++ (wX1 G (a0 1) a1 f1 A1 ++ (wX6 G (a0 2) a2 f2 A2))) [0, 1, 2, 3, 4, 5, 6, 7, 9, 10, 11]) (wN := (wX9 G h0 a0 wk f0 A0 ++ (wX1 G (a0 1) a1 f1 A1 ++ (wX6 G (a0 2) a2 f2 A2)))) rfl rfl rfl rfl rfl hl.1 (Nat.le_of_ble_eq_true rfl) dX9_worst_32 (fun H locs hPD hS => ?_)
    refine lv_imul hx hb dX9_worst_35 ?_
    refine lv_istore (lv' := [(4, .int ((f9_at 16 (A2 0) l3) * (f9_at 16 (A2 1) l3))), (0, .ref h0), (1, .int l1), (2, .int l2), (3, .int l3)]) hx hb dX9_worst_36 hl (by decide) rfl (fun ls hl => ?_)
    refine lv_aload_n hx hb dX9_worst_38 rfl (lv_at hl 1 rfl) ?_
    refine va_get (D := G.1) (ci := 9) (v := .ref (a0 1)) (C := RX9) (T := TX9) (N := 15) hx hb hts inlX9 hown hK hPD.1 0 rfl rfl 1 (by decide) (hts _ gw_351) (fun _ h9 => h9) rfl dX9_worst_39 ?_
    refine lv_iload_n hx hb dX9_worst_42 rfl (lv_at hl 4 rfl) ?_
    refine kVI (As := [.int l3]) (rest := []) C0 (kt_X1_isTold l G (a0 1) a1 f1 A1 l3) gi_V_X9_108_X1_isTold (n := 1) rfl (by decide +kernel) rfl ⟨rfl, rfl, Nat.le_of_ble_eq_true rfl, Nat.le_of_ble_eq_true rfl⟩ hPD hS 2 1 rfl rfl rfl [2, 3, 4, 5] [0, 1, 6, 7, 8, 9, 10, 11] [0, 1, 8, 9, 10, 11, 2, 3, 4, 5, 6, 7] (wr := (wX9 G h0 a0 wk f0 A0 ++ (wX6 G (a0 2) a2 f2 A2))) (wN := (wX9 G h0 a0 wk f0 A0 ++ (wX1 G (a0 1) a1 f1 A1 ++ (wX6 G (a0 2) a2 f2 A2)))) rfl rfl rfl rfl rfl hl.1 (Nat.le_of_ble_eq_true rfl) dX9_worst_43 (fun H locs hPD hS => ?_)
    refine lv_if_eq (tgt := 60) hx hb dX9_worst_46 (by decide) (fun cc1 => ?_) (fun cc1 => ?_)
    · have h := (if_pos cc1).symm.trans h
      refine lv_iinc (v := l3 + 1) (lv' := [(3, .int (l3 + 1)), (4, .int ((f9_at 16 (A2 0) l3) * (f9_at 16 (A2 1) l3))), (0, .ref h0), (1, .int l1), (2, .int l2)]) hx hb dX9_worst_60 hl (k := 4) rfl rfl (by decide) rfl (fun ls hl => ?_)
      refine lv_goto (tgt := 7) hx hb dX9_worst_63 (by decide) ?_
      exact hk7 l1 l2 (l3 + 1) h _ _ _ hPD hS (lv_sub hl [2, 3, 4, 0] rfl)
    · have h := (if_neg cc1).symm.trans h
      refine lv_iload hx hb dX9_worst_49 (lv_at hl 0 rfl) ?_
      refine lv_iload_n hx hb dX9_worst_51 rfl (lv_at hl 2 rfl) ?_
      refine lv_icmp_le (tgt := 60) hx hb dX9_worst_52 (by decide) (fun cc1 => ?_) (fun cc1 => ?_)
      · have h := (if_pos cc1).symm.trans h
        refine lv_iinc (v := l3 + 1) (lv' := [(3, .int (l3 + 1)), (4, .int ((f9_at 16 (A2 0) l3) * (f9_at 16 (A2 1) l3))), (0, .ref h0), (1, .int l1), (2, .int l2)]) hx hb dX9_worst_60 hl (k := 4) rfl rfl (by decide) rfl (fun ls hl => ?_)
        refine lv_goto (tgt := 7) hx hb dX9_worst_63 (by decide) ?_
        exact hk7 l1 l2 (l3 + 1) h _ _ _ hPD hS (lv_sub hl [2, 3, 4, 0] rfl)
      · have h := (if_neg cc1).symm.trans h
        refine lv_iload hx hb dX9_worst_55 (lv_at hl 0 rfl) ?_
        refine lv_istore_n (lv' := [(1, .int ((f9_at 16 (A2 0) l3) * (f9_at 16 (A2 1) l3))), (4, .int ((f9_at 16 (A2 0) l3) * (f9_at 16 (A2 1) l3))), (0, .ref h0), (2, .int l2), (3, .int l3)]) hx hb dX9_worst_57 rfl hl (by decide) rfl (fun ls hl => ?_)
        refine lv_iload_n hx hb dX9_worst_58 rfl (lv_at hl 4 rfl) ?_
        refine lv_istore_n (lv' := [(2, .int l3), (1, .int ((f9_at 16 (A2 0) l3) * (f9_at 16 (A2 1) l3))), (4, .int ((f9_at 16 (A2 0) l3) * (f9_at 16 (A2 1) l3))), (0, .ref h0), (3, .int l3)]) hx hb dX9_worst_59 rfl hl (by decide) rfl (fun ls hl => ?_)
        refine lv_iinc (v := l3 + 1) (lv' := [(3, .int (l3 + 1)), (2, .int l3), (1, .int ((f9_at 16 (A2 0) l3) * (f9_at 16 (A2 1) l3))), (4, .int ((f9_at 16 (A2 0) l3) * (f9_at 16 (A2 1) l3))), (0, .ref h0)]) hx hb dX9_worst_60 hl (k := 4) rfl rfl (by decide) rfl (fun ls hl => ?_)
        refine lv_goto (tgt := 7) hx hb dX9_worst_63 (by decide) ?_
        exact hk7 ((f9_at 16 (A2 0) l3) * (f9_at 16 (A2 1) l3)) l3 (l3 + 1) h _ _ _ hPD hS (lv_sub hl [4, 2, 1, 0] rfl)
set_option maxRecDepth 100000 in
set_option maxHeartbeats 4000000 in
theorem ww_f9_worst_l7  (C0 : Cx cX9_worst 5 (some .int) RX9 p s m args meth c G DA) {h0 : Nat} {a0 : Nat → Nat} {wk : Option Nat} {a1 : Nat → Nat} {a2 : Nat → Nat} {f0 : Nat → Int32} {A0 : Nat → Nat → Int32} {f1 : Nat → Int32} {A1 : Nat → Nat → Int32} {f2 : Nat → Int32} {A2 : Nat → Nat → Int32}   {res : Int32}  : ∀ (n : Nat) (l1 : Int32) (l2 : Int32) (l3 : Int32), f9_worst_l7 f0 A0 f1 A1 f2 A2  n l1 l2 l3 = some res → ∀ (H : Heap) (locs : List Loc) (ls : Array Slot), WD G DA (wX9 G h0 a0 wk f0 A0 ++ (wX1 G (a0 1) a1 f1 A1 ++ (wX6 G (a0 2) a2 f2 A2))) H → va_S DA s.heap H locs → lv_has ls 5 [(0, .ref h0), (1, .int l1), (2, .int l2), (3, .int l3)] → W p l e rmX9_worst s m args below meth c H locs 0 0 (MQ below (QI G DA res (wX9 G h0 a0 wk f0 A0 ++ (wX1 G (a0 1) a1 f1 A1 ++ (wX6 G (a0 2) a2 f2 A2)))) args s 0 0 DA) (F0 m 7 ls []) := by
  intro n
  induction n with
  | zero => intro l1 l2 l3 h; cases h
  | succ n ih => intro l1 l2 l3 h; exact ww_f9_worst_b7 C0  ih l1 l2 l3 h
set_option maxRecDepth 100000 in
set_option maxHeartbeats 4000000 in
theorem kt_X9_worst (l : Launch) (G : Gp) (h0 : Nat) (a0 : Nat → Nat) (wk : Option Nat) (a1 : Nat → Nat) (a2 : Nat → Nat) (f0 : Nat → Int32) (A0 : Nat → Nat → Int32) (f1 : Nat → Int32) (A1 : Nat → Nat → Int32) (f2 : Nat → Int32) (A2 : Nat → Nat → Int32) : ∀ {r : Int32}, f9_worst f0 A0 f1 A1 f2 A2 = some r → CtrI l yX9_worst cX9_worst 5 (some .int) rmX9_worst G [.ref h0] (wX9 G h0 a0 wk f0 A0 ++ (wX1 G (a0 1) a1 f1 A1 ++ (wX6 G (a0 2) a2 f2 A2))) r (wX9 G h0 a0 wk f0 A0 ++ (wX1 G (a0 1) a1 f1 A1 ++ (wX6 G (a0 2) a2 f2 A2))) := by
  intro res h
  refine ctrI_of (cc := cX9_worst) (maxL := 5) (ret := (some .int)) (by decide +kernel) rfl (Nat.le_of_ble_eq_true rfl) (fun p e s m below meth c DA C0 hP hD ls hl => ?_)
  have hPD : WD G DA (wX9 G h0 a0 wk f0 A0 ++ (wX1 G (a0 1) a1 f1 A1 ++ (wX6 G (a0 2) a2 f2 A2))) s.heap := ⟨hP, hD⟩
  have hS : va_S DA s.heap s.heap [] := va_S.rf
  have hl : lv_has ls 5 [(0, .ref h0)] := hl
  obtain ⟨hx, hb, hml, hown, hts⟩ := C0.1
  have hK := C0.2.2.2.1
  unfold f9_worst at h
  refine lv_iconst (v := (-1)) hx hb dX9_worst_0 (by decide) ?_
  refine lv_istore_n (lv' := [(1, .int (-1)), (0, .ref h0)]) hx hb dX9_worst_1 rfl hl (by decide) rfl (fun ls hl => ?_)
  refine lv_bipush (v := (-2)) hx hb dX9_worst_2 (by decide) ?_
  refine lv_istore_n (lv' := [(2, .int (-2)), (1, .int (-1)), (0, .ref h0)]) hx hb dX9_worst_4 rfl hl (by decide) rfl (fun ls hl => ?_)
  refine lv_iconst (v := 0) hx hb dX9_worst_5 (by decide) ?_
  refine lv_istore_n (lv' := [(3, .int 0), (2, .int (-2)), (1, .int (-1)), (0, .ref h0)]) hx hb dX9_worst_6 rfl hl (by decide) rfl (fun ls hl => ?_)
  exact ww_f9_worst_l7 C0 NF (-1) (-2) 0 h _ _ _ hPD hS (lv_sub hl [3, 2, 1, 0] rfl)
abbrev rmX9_ways : Room := { frames := 5, cells := 0, slots := 0, locals := 115 }
set_option maxRecDepth 100000 in
set_option maxHeartbeats 4000000 in
theorem kt_X9_ways (l : Launch) (G : Gp) (h0 : Nat) (a0 : Nat → Nat) (wk : Option Nat) (a1 : Nat → Nat) (f0 : Nat → Int32) (A0 : Nat → Nat → Int32) (f1 : Nat → Int32) (A1 : Nat → Nat → Int32) (p1 : Int32) (p2 : Int32) : ∀ {r : Int32 × (Nat → Nat → Int32)}, f9_ways f0 A0 f1 A1 p1 p2 = some r → CtrI l yX9_ways cX9_ways 3 (some .int) rmX9_ways G [.ref h0, .int p1, .int p2] (wX9 G h0 a0 wk f0 A0 ++ (wX1 G (a0 1) a1 f1 A1)) r.1 (wX9 G h0 a0 wk f0 A0 ++ (wX1 G (a0 1) a1 f1 r.2)) := by
  intro res h
  refine ctrI_of (cc := cX9_ways) (maxL := 3) (ret := (some .int)) (by decide +kernel) rfl (Nat.le_of_ble_eq_true rfl) (fun p e s m below meth c DA C0 hP hD ls hl => ?_)
  have hPD : WD G DA (wX9 G h0 a0 wk f0 A0 ++ (wX1 G (a0 1) a1 f1 A1)) s.heap := ⟨hP, hD⟩
  have hS : va_S DA s.heap s.heap [] := va_S.rf
  have hl : lv_has ls 3 [(0, .ref h0), (1, .int p1), (2, .int p2)] := hl
  obtain ⟨hx, hb, hml, hown, hts⟩ := C0.1
  have hK := C0.2.2.2.1
  unfold f9_ways at h
  refine lv_aload_n hx hb dX9_ways_0 rfl (lv_at hl 0 rfl) ?_
  refine va_get (D := G.1) (ci := 9) (v := .ref (a0 1)) (C := RX9) (T := TX9) (N := 15) hx hb hts inlX9 hown hK hPD.1 0 rfl rfl 1 (by decide) (hts _ gw_351) (fun _ h9 => h9) rfl dX9_ways_1 ?_
  refine lv_iload_n hx hb dX9_ways_4 rfl (lv_at hl 1 rfl) ?_
  refine kVI (As := [.int p1]) (rest := []) C0 (kt_X1_isTold l G (a0 1) a1 f1 A1 p1) gi_V_X9_108_X1_isTold (n := 1) rfl (by decide +kernel) rfl ⟨rfl, rfl, Nat.le_of_ble_eq_true rfl, Nat.le_of_ble_eq_true rfl⟩ hPD hS 2 1 rfl rfl rfl [2, 3, 4, 5] [0, 1] [0, 1, 2, 3, 4, 5] (wr := (wX9 G h0 a0 wk f0 A0)) (wN := (wX9 G h0 a0 wk f0 A0 ++ (wX1 G (a0 1) a1 f1 A1))) rfl rfl rfl rfl rfl hl.1 (Nat.le_of_ble_eq_true rfl) dX9_ways_5 (fun H locs hPD hS => ?_)
  refine lv_if_eq (tgt := 22) hx hb dX9_ways_8 (by decide) (fun cc1 => ?_) (fun cc1 => ?_)
  · have h := (if_pos cc1).symm.trans h
    refine lv_iconst (v := (-1)) hx hb dX9_ways_22 (by decide) ?_
    obtain rfl := Option.some.inj h
    exact eI C0 hPD.1 hPD.2 hS rfl dX9_ways_23
  · have h := (if_neg cc1).symm.trans h
    refine lv_aload_n hx hb dX9_ways_11 rfl (lv_at hl 0 rfl) ?_
    refine va_get (D := G.1) (ci := 9) (v := .ref (a0 1)) (C := RX9) (T := TX9) (N := 15) hx hb hts inlX9 hown hK hPD.1 0 rfl rfl 1 (by decide) (hts _ gw_351) (fun _ h9 => h9) rfl dX9_ways_12 ?_
    refine lv_iload_n hx hb dX9_ways_15 rfl (lv_at hl 2 rfl) ?_
    refine kVI (As := [.int p2]) (rest := []) C0 (kt_X1_isTold l G (a0 1) a1 f1 A1 p2) gi_V_X9_108_X1_isTold (n := 1) rfl (by decide +kernel) rfl ⟨rfl, rfl, Nat.le_of_ble_eq_true rfl, Nat.le_of_ble_eq_true rfl⟩ hPD hS 2 1 rfl rfl rfl [2, 3, 4, 5] [0, 1] [0, 1, 2, 3, 4, 5] (wr := (wX9 G h0 a0 wk f0 A0)) (wN := (wX9 G h0 a0 wk f0 A0 ++ (wX1 G (a0 1) a1 f1 A1))) rfl rfl rfl rfl rfl hl.1 (Nat.le_of_ble_eq_true rfl) dX9_ways_16 (fun H locs hPD hS => ?_)
    refine lv_if_ne (tgt := 24) hx hb dX9_ways_19 (by decide) (fun cc1 => ?_) (fun cc1 => ?_)
    · have h := (if_neg cc1).symm.trans h
      refine lv_aload_n hx hb dX9_ways_24 rfl (lv_at hl 0 rfl) ?_
      refine va_get (D := G.1) (ci := 9) (v := .ref (a0 1)) (C := RX9) (T := TX9) (N := 15) hx hb hts inlX9 hown hK hPD.1 0 rfl rfl 1 (by decide) (hts _ gw_351) (fun _ h9 => h9) rfl dX9_ways_25 ?_
      refine lv_iload_n hx hb dX9_ways_28 rfl (lv_at hl 1 rfl) ?_
      refine lv_iload_n hx hb dX9_ways_29 rfl (lv_at hl 2 rfl) ?_
      obtain ⟨q_1, hq_1, h⟩ := ob2 h
      refine kVI (As := [.int p1, .int p2]) (rest := []) C0 (kt_X1_shortestWays l G (a0 1) a1 f1 A1 p1 p2 hq_1) gi_V_X9_227_X1_shortestWays (n := 2) rfl (by decide +kernel) rfl ⟨rfl, rfl, Nat.le_of_ble_eq_true rfl, Nat.le_of_ble_eq_true rfl⟩ hPD hS 2 1 rfl rfl rfl [2, 3, 4, 5] [0, 1] [0, 1, 2, 3, 4, 5] (wr := (wX9 G h0 a0 wk f0 A0)) (wN := (wX9 G h0 a0 wk f0 A0 ++ (wX1 G (a0 1) a1 f1 q_1.2))) rfl rfl rfl rfl rfl hl.1 (Nat.le_of_ble_eq_true rfl) dX9_ways_30 (fun H locs hPD hS => ?_)
      obtain rfl := Option.some.inj h
      exact eI C0 hPD.1 hPD.2 hS rfl dX9_ways_33
    · have h := (if_pos cc1).symm.trans h
      refine lv_iconst (v := (-1)) hx hb dX9_ways_22 (by decide) ?_
      obtain rfl := Option.some.inj h
      exact eI C0 hPD.1 hPD.2 hS rfl dX9_ways_23
abbrev rmX9_way : Room := { frames := 4, cells := 0, slots := 0, locals := 91 }
set_option maxRecDepth 100000 in
set_option maxHeartbeats 4000000 in
theorem ww_f9_way_b40  (C0 : Cx cX9_way 5 (some .int) RX9 p s m args meth c G DA) {h0 : Nat} {a0 : Nat → Nat} {wk : Option Nat} {a1 : Nat → Nat} {f0 : Nat → Int32} {A0 : Nat → Nat → Int32} {f1 : Nat → Int32} {p1 : Int32} {p2 : Int32} {p3 : Int32}   {res : Int32 × (Nat → Nat → Int32)}  : ∀ (A1 : Nat → Nat → Int32), f9_way_b40 f0 A0 f1 p1 p2 p3  A1 = some res → ∀ (H : Heap) (locs : List Loc) (ls : Array Slot), WD G DA (wX9 G h0 a0 wk f0 A0 ++ (wX1 G (a0 1) a1 f1 A1)) H → va_S DA s.heap H locs → lv_has ls 5 [(0, .ref h0), (1, .int p1), (2, .int p2), (3, .int p3)] → W p l e rmX9_way s m args below meth c H locs 0 0 (MQ below (QI G DA res.1 (wX9 G h0 a0 wk f0 A0 ++ (wX1 G (a0 1) a1 f1 res.2))) args s 0 0 DA) (F0 m 40 ls []) := by
  obtain ⟨hx, hb, hml, hown, hts⟩ := C0.1
  have hK := C0.2.2.2.1
  intro A1 h _ _ _ hPD hS hl
  unfold f9_way_b40 at h
  refine lv_aload_n hx hb dX9_way_40 rfl (lv_at hl 0 rfl) ?_
  refine va_get (D := G.1) (ci := 9) (v := .ref (a0 1)) (C := RX9) (T := TX9) (N := 15) hx hb hts inlX9 hown hK hPD.1 0 rfl rfl 1 (by decide) (hts _ gw_351) (fun _ h9 => h9) rfl dX9_way_41 ?_
  refine lv_iload_n hx hb dX9_way_44 rfl (lv_at hl 2 rfl) ?_
  obtain ⟨q_1, hq_1, h⟩ := ob2 h
  refine kVV (As := [.int p2]) (rest := []) C0 (kt_X1_measure l G (a0 1) a1 f1 A1 p2 hq_1) gi_V_X9_230_X1_measure (n := 1) rfl (by decide +kernel) rfl ⟨rfl, rfl, Nat.le_of_ble_eq_true rfl, Nat.le_of_ble_eq_true rfl⟩ hPD hS 2 1 rfl rfl rfl [2, 3, 4, 5] [0, 1] [0, 1, 2, 3, 4, 5] (wr := (wX9 G h0 a0 wk f0 A0)) (wN := (wX9 G h0 a0 wk f0 A0 ++ (wX1 G (a0 1) a1 f1 q_1))) rfl rfl rfl rfl rfl hl.1 (Nat.le_of_ble_eq_true rfl) dX9_way_45 (fun H locs hPD hS => ?_)
  refine lv_aload_n hx hb dX9_way_48 rfl (lv_at hl 0 rfl) ?_
  refine va_get (D := G.1) (ci := 9) (v := .ref (a0 1)) (C := RX9) (T := TX9) (N := 15) hx hb hts inlX9 hown hK hPD.1 0 rfl rfl 1 (by decide) (hts _ gw_351) (fun _ h9 => h9) rfl dX9_way_49 ?_
  refine lv_iload_n hx hb dX9_way_52 rfl (lv_at hl 1 rfl) ?_
  refine kVI (As := [.int p1]) (rest := []) C0 (kt_X1_stepsTo l G (a0 1) a1 f1 q_1 p1) gi_V_X9_233_X1_stepsTo (n := 1) rfl (by decide +kernel) rfl ⟨rfl, rfl, Nat.le_of_ble_eq_true rfl, Nat.le_of_ble_eq_true rfl⟩ hPD hS 2 1 rfl rfl rfl [2, 3, 4, 5] [0, 1] [0, 1, 2, 3, 4, 5] (wr := (wX9 G h0 a0 wk f0 A0)) (wN := (wX9 G h0 a0 wk f0 A0 ++ (wX1 G (a0 1) a1 f1 q_1))) rfl rfl rfl rfl rfl hl.1 (Nat.le_of_ble_eq_true rfl) dX9_way_53 (fun H locs hPD hS => ?_)
  refine lv_istore (lv' := [(4, .int (f1_stepsTo f1 q_1 p1)), (0, .ref h0), (1, .int p1), (2, .int p2), (3, .int p3)]) hx hb dX9_way_56 hl (by decide) rfl (fun ls hl => ?_)
  refine lv_iload hx hb dX9_way_58 (lv_at hl 0 rfl) ?_
  refine lv_if_ge (tgt := 66) hx hb dX9_way_60 (by decide) (fun cc1 => ?_) (fun cc1 => ?_)
  · have h := (if_pos cc1).symm.trans h
    refine lv_iload_n hx hb dX9_way_66 rfl (lv_at hl 4 rfl) ?_
    refine lv_bipush (v := 100) hx hb dX9_way_67 (by decide) ?_
    refine lv_icmp_ne (tgt := 75) hx hb dX9_way_69 (by decide) (fun cc1 => ?_) (fun cc1 => ?_)
    · have h := (if_neg cc1).symm.trans h
      refine lv_iload_n hx hb dX9_way_75 rfl (lv_at hl 4 rfl) ?_
      refine lv_iload hx hb dX9_way_76 (lv_at hl 0 rfl) ?_
      refine lv_icmp_le (tgt := 86) hx hb dX9_way_78 (by decide) (fun cc1 => ?_) (fun cc1 => ?_)
      · have h := (if_pos cc1).symm.trans h
        refine lv_aload_n hx hb dX9_way_86 rfl (lv_at hl 1 rfl) ?_
        refine va_get (D := G.1) (ci := 9) (v := .ref (a0 1)) (C := RX9) (T := TX9) (N := 15) hx hb hts inlX9 hown hK hPD.1 0 rfl rfl 1 (by decide) (hts _ gw_351) (fun _ h9 => h9) rfl dX9_way_87 ?_
        refine lv_iload_n hx hb dX9_way_90 rfl (lv_at hl 2 rfl) ?_
        refine lv_iload_n hx hb dX9_way_91 rfl (lv_at hl 4 rfl) ?_
        obtain ⟨q_2, hq_2, h⟩ := ob2 h
        refine kVI (As := [.int p1, .int p3]) (rest := []) C0 (kt_X1_stepTowards l G (a0 1) a1 f1 q_1 p1 p3 hq_2) gi_V_X9_236_X1_stepTowards (n := 2) rfl (by decide +kernel) rfl ⟨rfl, rfl, Nat.le_of_ble_eq_true rfl, Nat.le_of_ble_eq_true rfl⟩ hPD hS 2 1 rfl rfl rfl [2, 3, 4, 5] [0, 1] [0, 1, 2, 3, 4, 5] (wr := (wX9 G h0 a0 wk f0 A0)) (wN := (wX9 G h0 a0 wk f0 A0 ++ (wX1 G (a0 1) a1 f1 q_1))) rfl rfl rfl rfl rfl hl.1 (Nat.le_of_ble_eq_true rfl) dX9_way_92 (fun H locs hPD hS => ?_)
        obtain rfl := Option.some.inj h
        exact eI C0 hPD.1 hPD.2 hS rfl dX9_way_95
      · have h := (if_neg cc1).symm.trans h
        refine lv_bipush (v := (-4)) hx hb dX9_way_81 (by decide) ?_
        refine lv_goto (tgt := 95) hx hb dX9_way_83 (by decide) ?_
        obtain rfl := Option.some.inj h
        exact eI C0 hPD.1 hPD.2 hS rfl dX9_way_95
    · have h := (if_pos cc1).symm.trans h
      refine lv_iload hx hb dX9_way_72 (lv_at hl 0 rfl) ?_
      obtain rfl := Option.some.inj h
      exact eI C0 hPD.1 hPD.2 hS rfl dX9_way_74
  · have h := (if_neg cc1).symm.trans h
    refine lv_bipush (v := (-2)) hx hb dX9_way_63 (by decide) ?_
    obtain rfl := Option.some.inj h
    exact eI C0 hPD.1 hPD.2 hS rfl dX9_way_65
end WALK
