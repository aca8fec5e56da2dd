section WALK
variable {p : Program} {l : Launch} {e : Env} {s : State} {m : MethodId} {args : Array Value} {below : List Frame} {meth : Method} {c : Code} {G : Gp} {DA : Nat → Prop}
abbrev rmX9_count : Room := { frames := 4, cells := 0, slots := 0, locals := 86 }
set_option maxRecDepth 100000 in
set_option maxHeartbeats 4000000 in
theorem kt_X9_count (l : Launch) (G : Gp) (h0 : Nat) (a0 : Nat → Nat) (wk : Option Nat) (a1 : Nat → Nat) (a2 : Nat → Nat) (a3 : Nat → Nat) (a4 : Nat → Nat) (f0 : Nat → Int32) (A0 : Nat → Nat → Int32) (f1 : Nat → Int32) (A1 : Nat → Nat → Int32) (f2 : Nat → Int32) (A2 : Nat → Nat → Int32) (f3 : Nat → Int32) (A3 : Nat → Nat → Int32) (f4 : Nat → Int32) (A4 : Nat → Nat → Int32) (p1 : Int32) : ∀ {r : Int32}, f9_count f0 A0 f1 A1 f2 A2 f3 A3 f4 A4 p1 = some r → CtrI l yX9_count cX9_count 2 (some .int) rmX9_count G [.ref h0, .int p1] (wX9 G h0 a0 wk f0 A0 ++ (wX7 G (a0 0) a1 f1 A1 ++ (wX1 G (a0 1) a2 f2 A2 ++ (wX6 G (a0 2) a3 f3 A3 ++ (wX2 G (a0 11) a4 f4 A4))))) r (wX9 G h0 a0 wk f0 A0 ++ (wX7 G (a0 0) a1 f1 A1 ++ (wX1 G (a0 1) a2 f2 A2 ++ (wX6 G (a0 2) a3 f3 A3 ++ (wX2 G (a0 11) a4 f4 A4))))) := by
  intro res h
  refine ctrI_of (cc := cX9_count) (maxL := 2) (ret := (some .int)) (by decide +kernel) rfl (Nat.le_of_ble_eq_true rfl) (fun p e s m below meth c DA C0 hP hD ls hl => ?_)
  have hPD : WD G DA (wX9 G h0 a0 wk f0 A0 ++ (wX7 G (a0 0) a1 f1 A1 ++ (wX1 G (a0 1) a2 f2 A2 ++ (wX6 G (a0 2) a3 f3 A3 ++ (wX2 G (a0 11) a4 f4 A4))))) s.heap := ⟨hP, hD⟩
  have hS : va_S DA s.heap s.heap [] := va_S.rf
  have hl : lv_has ls 2 [(0, .ref h0), (1, .int p1)] := hl
  obtain ⟨hx, hb, hml, hown, hts⟩ := C0.1
  have hK := C0.2.2.2.1
  unfold f9_count at h
  refine lv_iload_n hx hb dX9_count_0 rfl (lv_at hl 1 rfl) ?_
  by_cases cc0 : p1 = 0
  · have h := (if_pos cc0).symm.trans h
    refine lv_swT (tgt := 52) (k := 0) hx hb dX9_count_1 cc0 (by decide) (by decide) ?_
    refine lv_aload_n hx hb dX9_count_52 rfl (lv_at hl 0 rfl) ?_
    refine va_get (D := G.1) (ci := 9) (v := .ref (a0 2)) (C := RX9) (T := TX9) (N := 15) hx hb hts inlX9 hown hK hPD.1 0 rfl rfl 2 (by decide) (hts _ gw_356) (fun _ h9 => h9) rfl dX9_count_53 ?_
    refine va_get (D := G.1) (ci := 6) (v := .int (f3 8)) (C := RX6) (T := TX6) (N := 10) hx hb hts inlX6 hown hK hPD.1 8 rfl rfl 8 (by decide) (hts _ gw_445) (fun _ h9 => h9) rfl dX9_count_56 ?_
    obtain rfl := Option.some.inj h
    exact eI C0 hPD.1 hPD.2 hS rfl dX9_count_59
  have h := (if_neg cc0).symm.trans h
  by_cases cc1 : p1 = 1
  · have h := (if_pos cc1).symm.trans h
    refine lv_swT (tgt := 60) (k := 1) hx hb dX9_count_1 cc1 (by decide) (by decide) ?_
    refine lv_aload_n hx hb dX9_count_60 rfl (lv_at hl 0 rfl) ?_
    refine va_get (D := G.1) (ci := 9) (v := .ref (a0 2)) (C := RX9) (T := TX9) (N := 15) hx hb hts inlX9 hown hK hPD.1 0 rfl rfl 2 (by decide) (hts _ gw_356) (fun _ h9 => h9) rfl dX9_count_61 ?_
    refine va_get (D := G.1) (ci := 6) (v := .int (f3 7)) (C := RX6) (T := TX6) (N := 10) hx hb hts inlX6 hown hK hPD.1 8 rfl rfl 7 (by decide) (hts _ gw_446) (fun _ h9 => h9) rfl dX9_count_64 ?_
    obtain rfl := Option.some.inj h
    exact eI C0 hPD.1 hPD.2 hS rfl dX9_count_67
  have h := (if_neg cc1).symm.trans h
  by_cases cc2 : p1 = 2
  · have h := (if_pos cc2).symm.trans h
    refine lv_swT (tgt := 68) (k := 2) hx hb dX9_count_1 cc2 (by decide) (by decide) ?_
    refine lv_aload_n hx hb dX9_count_68 rfl (lv_at hl 0 rfl) ?_
    refine va_get (D := G.1) (ci := 9) (v := .ref (a0 2)) (C := RX9) (T := TX9) (N := 15) hx hb hts inlX9 hown hK hPD.1 0 rfl rfl 2 (by decide) (hts _ gw_356) (fun _ h9 => h9) rfl dX9_count_69 ?_
    refine va_get (D := G.1) (ci := 6) (v := .int (f3 6)) (C := RX6) (T := TX6) (N := 10) hx hb hts inlX6 hown hK hPD.1 8 rfl rfl 6 (by decide) (hts _ gw_434) (fun _ h9 => h9) rfl dX9_count_72 ?_
    obtain rfl := Option.some.inj h
    exact eI C0 hPD.1 hPD.2 hS rfl dX9_count_75
  have h := (if_neg cc2).symm.trans h
  by_cases cc3 : p1 = 3
  · have h := (if_pos cc3).symm.trans h
    refine lv_swT (tgt := 76) (k := 3) hx hb dX9_count_1 cc3 (by decide) (by decide) ?_
    refine lv_aload_n hx hb dX9_count_76 rfl (lv_at hl 0 rfl) ?_
    refine va_get (D := G.1) (ci := 9) (v := .ref (a0 1)) (C := RX9) (T := TX9) (N := 15) hx hb hts inlX9 hown hK hPD.1 0 rfl rfl 1 (by decide) (hts _ gw_354) (fun _ h9 => h9) rfl dX9_count_77 ?_
    refine va_get (D := G.1) (ci := 1) (v := .int (f2 0)) (C := RX1) (T := TX1) (N := 4) hx hb hts inlX1 hown hK hPD.1 4 rfl rfl 0 (by decide) (hts _ gw_355) (fun _ h9 => h9) rfl dX9_count_80 ?_
    obtain rfl := Option.some.inj h
    exact eI C0 hPD.1 hPD.2 hS rfl dX9_count_83
  have h := (if_neg cc3).symm.trans h
  by_cases cc4 : p1 = 4
  · have h := (if_pos cc4).symm.trans h
    refine lv_swT (tgt := 84) (k := 4) hx hb dX9_count_1 cc4 (by decide) (by decide) ?_
    refine lv_aload_n hx hb dX9_count_84 rfl (lv_at hl 0 rfl) ?_
    refine va_get (D := G.1) (ci := 9) (v := .ref (a0 2)) (C := RX9) (T := TX9) (N := 15) hx hb hts inlX9 hown hK hPD.1 0 rfl rfl 2 (by decide) (hts _ gw_356) (fun _ h9 => h9) rfl dX9_count_85 ?_
    refine va_get (D := G.1) (ci := 6) (v := .int (f3 5)) (C := RX6) (T := TX6) (N := 10) hx hb hts inlX6 hown hK hPD.1 8 rfl rfl 5 (by decide) (hts _ gw_361) (fun _ h9 => h9) rfl dX9_count_88 ?_
    obtain rfl := Option.some.inj h
    exact eI C0 hPD.1 hPD.2 hS rfl dX9_count_91
  have h := (if_neg cc4).symm.trans h
  by_cases cc5 : p1 = 5
  · have h := (if_pos cc5).symm.trans h
    refine lv_swT (tgt := 92) (k := 5) hx hb dX9_count_1 cc5 (by decide) (by decide) ?_
    refine lv_aload_n hx hb dX9_count_92 rfl (lv_at hl 0 rfl) ?_
    refine va_get (D := G.1) (ci := 9) (v := .ref (a0 2)) (C := RX9) (T := TX9) (N := 15) hx hb hts inlX9 hown hK hPD.1 0 rfl rfl 2 (by decide) (hts _ gw_356) (fun _ h9 => h9) rfl dX9_count_93 ?_
    obtain ⟨q_1, hq_1, h⟩ := ob2 h
    refine kVI (As := []) (rest := []) C0 (kt_X6_wages l G (a0 2) a3 f3 A3 hq_1) gi_V_X9_221_X6_wages (n := 0) rfl (by decide +kernel) rfl ⟨rfl, rfl, Nat.le_of_ble_eq_true rfl, Nat.le_of_ble_eq_true rfl⟩ hPD hS 8 6 rfl rfl rfl [8, 9, 10, 11, 12, 13] [0, 1, 2, 3, 4, 5, 6, 7, 14, 15, 16, 17, 18, 19, 20, 21] [0, 1, 2, 3, 4, 5, 6, 7, 16, 17, 18, 19, 20, 21, 8, 9, 10, 11, 12, 13, 14, 15] (wN := (wX9 G h0 a0 wk f0 A0 ++ (wX7 G (a0 0) a1 f1 A1 ++ (wX1 G (a0 1) a2 f2 A2 ++ (wX6 G (a0 2) a3 f3 A3 ++ (wX2 G (a0 11) a4 f4 A4)))))) rfl rfl rfl rfl rfl hl.1 (Nat.le_of_ble_eq_true rfl) dX9_count_96 (fun H locs hPD hS => ?_)
    obtain rfl := Option.some.inj h
    exact eI C0 hPD.1 hPD.2 hS rfl dX9_count_99
  have h := (if_neg cc5).symm.trans h
  by_cases cc6 : p1 = 6
  · have h := (if_pos cc6).symm.trans h
    refine lv_swT (tgt := 100) (k := 6) hx hb dX9_count_1 cc6 (by decide) (by decide) ?_
    refine lv_aload_n hx hb dX9_count_100 rfl (lv_at hl 0 rfl) ?_
    refine va_get (D := G.1) (ci := 9) (v := .ref (a0 11)) (C := RX9) (T := TX9) (N := 15) hx hb hts inlX9 hown hK hPD.1 0 rfl rfl 11 (by decide) (hts _ gw_386) (fun _ h9 => h9) rfl dX9_count_101 ?_
    refine va_get (D := G.1) (ci := 2) (v := .int (f4 9)) (C := RX2) (T := TX2) (N := 10) hx hb hts inlX2 hown hK hPD.1 14 rfl rfl 9 (by decide) (hts _ gw_387) (fun _ h9 => h9) rfl dX9_count_104 ?_
    obtain rfl := Option.some.inj h
    exact eI C0 hPD.1 hPD.2 hS rfl dX9_count_107
  have h := (if_neg cc6).symm.trans h
  by_cases cc7 : p1 = 7
  · have h := (if_pos cc7).symm.trans h
    refine lv_swT (tgt := 108) (k := 7) hx hb dX9_count_1 cc7 (by decide) (by decide) ?_
    refine lv_aload_n hx hb dX9_count_108 rfl (lv_at hl 0 rfl) ?_
    refine va_get (D := G.1) (ci := 9) (v := .ref (a0 0)) (C := RX9) (T := TX9) (N := 15) hx hb hts inlX9 hown hK hPD.1 0 rfl rfl 0 (by decide) (hts _ gw_366) (fun _ h9 => h9) rfl dX9_count_109 ?_
    refine va_get (D := G.1) (ci := 7) (v := .int (f1 1)) (C := RX7) (T := TX7) (N := 6) hx hb hts inlX7 hown hK hPD.1 2 rfl rfl 1 (by decide) (hts _ gw_367) (fun _ h9 => h9) rfl dX9_count_112 ?_
    obtain rfl := Option.some.inj h
    exact eI C0 hPD.1 hPD.2 hS rfl dX9_count_115
  have h := (if_neg cc7).symm.trans h
  by_cases cc8 : p1 = 8
  · have h := (if_pos cc8).symm.trans h
    refine lv_swT (tgt := 116) (k := 8) hx hb dX9_count_1 cc8 (by decide) (by decide) ?_
    refine lv_aload_n hx hb dX9_count_116 rfl (lv_at hl 0 rfl) ?_
    refine va_get (D := G.1) (ci := 9) (v := .ref (a0 2)) (C := RX9) (T := TX9) (N := 15) hx hb hts inlX9 hown hK hPD.1 0 rfl rfl 2 (by decide) (hts _ gw_356) (fun _ h9 => h9) rfl dX9_count_117 ?_
    refine va_get (D := G.1) (ci := 6) (v := .int (f3 9)) (C := RX6) (T := TX6) (N := 10) hx hb hts inlX6 hown hK hPD.1 8 rfl rfl 9 (by decide) (hts _ gw_365) (fun _ h9 => h9) rfl dX9_count_120 ?_
    obtain rfl := Option.some.inj h
    exact eI C0 hPD.1 hPD.2 hS rfl dX9_count_123
  have h := (if_neg cc8).symm.trans h
  refine lv_swTD (tgt := 124) (ks := [0, 1, 2, 3, 4, 5, 6, 7, 8]) hx hb dX9_count_1 (by decide) (by decide) ⟨cc0, cc1, cc2, cc3, cc4, cc5, cc6, cc7, cc8, trivial⟩ (by decide) ?_
  refine lv_iconst (v := (-1)) hx hb dX9_count_124 (by decide) ?_
  obtain rfl := Option.some.inj h
  exact eI C0 hPD.1 hPD.2 hS rfl dX9_count_125
abbrev rmX9_check : Room := { frames := 3, cells := 0, slots := 0, locals := 64 }
set_option maxRecDepth 100000 in
set_option maxHeartbeats 4000000 in
theorem ww_f9_check_b67  (C0 : Cx cX9_check 4 (some .int) RX9 p s m args meth c G DA) {h0 : Nat} {a0 : Nat → Nat} {wk : Option Nat} {a1 : Nat → Nat} {a2 : Nat → Nat} {a3 : Nat → Nat} {f0 : Nat → Int32} {A0 : Nat → Nat → Int32} {A1 : Nat → Nat → Int32} {f2 : Nat → Int32} {A2 : Nat → Nat → Int32} {f3 : Nat → Int32} {A3 : Nat → Nat → Int32} {p1 : Int32}  {k34 : (Nat → Int32) → Int32 → Option (Int32 × (Nat → Int32))} {res : Int32 × (Nat → Int32)} (hk34 : ∀ (f1 : Nat → Int32) (l2 : Int32), k34 f1 l2 = some res → ∀ (H : Heap) (locs : List Loc) (ls : Array Slot), WD G DA (wX9 G h0 a0 wk f0 A0 ++ (wX7 G (a0 0) a1 f1 A1 ++ (wX1 G (a0 1) a2 f2 A2 ++ (wX6 G (a0 2) a3 f3 A3)))) H → va_S DA s.heap H locs → lv_has ls 4 [(0, .ref h0), (1, .int p1), (2, .int l2)] → W p l e rmX9_check s m args below meth c H locs 0 0 (MQ below (QI G DA res.1 (wX9 G h0 a0 wk f0 A0 ++ (wX7 G (a0 0) a1 res.2 A1 ++ (wX1 G (a0 1) a2 f2 A2 ++ (wX6 G (a0 2) a3 f3 A3))))) args s 0 0 DA) (F0 m 34 ls [])) : ∀ (f1 : Nat → Int32) (l2 : Int32) (s0 : Int32), f9_check_b67 f0 A0 A1 f2 A2 f3 A3 p1 k34 f1 l2 s0 = some res → ∀ (H : Heap) (locs : List Loc) (ls : Array Slot), WD G DA (wX9 G h0 a0 wk f0 A0 ++ (wX7 G (a0 0) a1 f1 A1 ++ (wX1 G (a0 1) a2 f2 A2 ++ (wX6 G (a0 2) a3 f3 A3)))) H → va_S DA s.heap H locs → lv_has ls 4 [(0, .ref h0), (1, .int p1), (2, .int l2)] → W p l e rmX9_check s m args below meth c H locs 0 0 (MQ below (QI G DA res.1 (wX9 G h0 a0 wk f0 A0 ++ (wX7 G (a0 0) a1 res.2 A1 ++ (wX1 G (a0 1) a2 f2 A2 ++ (wX6 G (a0 2) a3 f3 A3))))) args s 0 0 DA) (F0 m 67 ls [.int s0]) := by
  obtain ⟨hx, hb, hml, hown, hts⟩ := C0.1
  have hK := C0.2.2.2.1
  intro f1 l2 s0 h _ _ _ hPD hS hl
  unfold f9_check_b67 at h
  refine lv_istore_n (lv' := [(3, .int s0), (0, .ref h0), (1, .int p1), (2, .int l2)]) hx hb dX9_check_67 rfl hl (by decide) rfl (fun ls hl => ?_)
  refine lv_aload_n hx hb dX9_check_68 rfl (lv_at hl 1 rfl) ?_
  refine va_get (D := G.1) (ci := 9) (v := .ref (a0 0)) (C := RX9) (T := TX9) (N := 15) hx hb hts inlX9 hown hK hPD.1 0 rfl rfl 0 (by decide) (hts _ gw_366) (fun _ h9 => h9) rfl dX9_check_69 ?_
  refine lv_iload_n hx hb dX9_check_72 rfl (lv_at hl 3 rfl) ?_
  refine kVI (As := [.int l2]) (rest := []) C0 (kt_X7_byteAt l G (a0 0) a1 f1 A1 l2) gi_V_X9_224_X7_byteAt (n := 1) rfl (by decide +kernel) rfl ⟨rfl, rfl, Nat.le_of_ble_eq_true rfl, Nat.le_of_ble_eq_true rfl⟩ hPD hS 2 7 rfl rfl rfl [2, 3] [0, 1, 4, 5, 6, 7, 8, 9, 10, 11, 12, 13] [0, 1, 12, 13, 2, 3, 4, 5, 6, 7, 8, 9, 10, 11] (wN := (wX9 G h0 a0 wk f0 A0 ++ (wX7 G (a0 0) a1 f1 A1 ++ (wX1 G (a0 1) a2 f2 A2 ++ (wX6 G (a0 2) a3 f3 A3))))) rfl rfl rfl rfl rfl hl.1 (Nat.le_of_ble_eq_true rfl) dX9_check_73 (fun H locs hPD hS => ?_)
  refine lv_iload_n hx hb dX9_check_76 rfl (lv_at hl 0 rfl) ?_
  refine lv_icmp_eq (tgt := 82) hx hb dX9_check_77 (by decide) (fun cc1 => ?_) (fun cc1 => ?_)
  · have h := (if_pos cc1).symm.trans h
    refine lv_iinc (v := l2 + 1) (lv' := [(2, .int (l2 + 1)), (3, .int s0), (0, .ref h0), (1, .int p1)]) hx hb dX9_check_82 hl (k := 3) rfl rfl (by decide) rfl (fun ls hl => ?_)
    refine lv_goto (tgt := 34) hx hb dX9_check_85 (by decide) ?_
    exact hk34 f1 (l2 + 1) h _ _ _ hPD hS (lv_sub hl [2, 3, 0] rfl)
  · have h := (if_neg cc1).symm.trans h
    refine lv_iload_n hx hb dX9_check_80 rfl (lv_at hl 3 rfl) ?_
    obtain rfl := Option.some.inj h
    exact eI C0 hPD.1 hPD.2 hS rfl dX9_check_81
set_option maxRecDepth 100000 in
set_option maxHeartbeats 4000000 in
theorem ww_f9_check_b34  (C0 : Cx cX9_check 4 (some .int) RX9 p s m args meth c G DA) {h0 : Nat} {a0 : Nat → Nat} {wk : Option Nat} {a1 : Nat → Nat} {a2 : Nat → Nat} {a3 : Nat → Nat} {f0 : Nat → Int32} {A0 : Nat → Nat → Int32} {A1 : Nat → Nat → Int32} {f2 : Nat → Int32} {A2 : Nat → Nat → Int32} {f3 : Nat → Int32} {A3 : Nat → Nat → Int32} {p1 : Int32}  {k34 : (Nat → Int32) → Int32 → Option (Int32 × (Nat → Int32))} {res : Int32 × (Nat → Int32)}  (hk34 : ∀ (f1 : Nat → Int32) (l2 : Int32), k34 f1 l2 = some res → ∀ (H : Heap) (locs : List Loc) (ls : Array Slot), WD G DA (wX9 G h0 a0 wk f0 A0 ++ (wX7 G (a0 0) a1 f1 A1 ++ (wX1 G (a0 1) a2 f2 A2 ++ (wX6 G (a0 2) a3 f3 A3)))) H → va_S DA s.heap H locs → lv_has ls 4 [(0, .ref h0), (1, .int p1), (2, .int l2)] → W p l e rmX9_check s m args below meth c H locs 0 0 (MQ below (QI G DA res.1 (wX9 G h0 a0 wk f0 A0 ++ (wX7 G (a0 0) a1 res.2 A1 ++ (wX1 G (a0 1) a2 f2 A2 ++ (wX6 G (a0 2) a3 f3 A3))))) args s 0 0 DA) (F0 m 34 ls [])) : ∀ (f1 : Nat → Int32) (l2 : Int32), f9_check_b34 f0 A0 A1 f2 A2 f3 A3 p1  k34 f1 l2 = some res → ∀ (H : Heap) (locs : List Loc) (ls : Array Slot), WD G DA (wX9 G h0 a0 wk f0 A0 ++ (wX7 G (a0 0) a1 f1 A1 ++ (wX1 G (a0 1) a2 f2 A2 ++ (wX6 G (a0 2) a3 f3 A3)))) H → va_S DA s.heap H locs → lv_has ls 4 [(0, .ref h0), (1, .int p1), (2, .int l2)] → W p l e rmX9_check s m args below meth c H locs 0 0 (MQ below (QI G DA res.1 (wX9 G h0 a0 wk f0 A0 ++ (wX7 G (a0 0) a1 res.2 A1 ++ (wX1 G (a0 1) a2 f2 A2 ++ (wX6 G (a0 2) a3 f3 A3))))) args s 0 0 DA) (F0 m 34 ls []) := by
  obtain ⟨hx, hb, hml, hown, hts⟩ := C0.1
  have hK := C0.2.2.2.1
  intro f1 l2 h _ _ _ hPD hS hl
  unfold f9_check_b34 at h
  refine lv_iload_n hx hb dX9_check_34 rfl (lv_at hl 2 rfl) ?_
  refine lv_iload_n hx hb dX9_check_35 rfl (lv_at hl 1 rfl) ?_
  refine lv_icmp_ge (tgt := 88) hx hb dX9_check_36 (by decide) (fun cc1 => ?_) (fun cc1 => ?_)
  · have h := (if_pos cc1).symm.trans h
    refine lv_iconst (v := (-1)) hx hb dX9_check_88 (by decide) ?_
    obtain rfl := Option.some.inj h
    exact eI C0 hPD.1 hPD.2 hS rfl dX9_check_89
  · have h := (if_neg cc1).symm.trans h
    refine lv_aload_n hx hb dX9_check_39 rfl (lv_at hl 0 rfl) ?_
    refine va_get (D := G.1) (ci := 9) (v := .ref (a0 1)) (C := RX9) (T := TX9) (N := 15) hx hb hts inlX9 hown hK hPD.1 0 rfl rfl 1 (by decide) (hts _ gw_354) (fun _ h9 => h9) rfl dX9_check_40 ?_
    refine lv_iload_n hx hb dX9_check_43 rfl (lv_at hl 2 rfl) ?_
    refine kVI (As := [.int l2]) (rest := []) C0 (kt_X1_isTold l G (a0 1) a2 f2 A2 l2) gi_V_X9_108_X1_isTold (n := 1) rfl (by decide +kernel) rfl ⟨rfl, rfl, Nat.le_of_ble_eq_true rfl, Nat.le_of_ble_eq_true rfl⟩ hPD hS 4 1 rfl rfl rfl [4, 5, 6, 7] [0, 1, 2, 3, 8, 9, 10, 11, 12, 13] [0, 1, 2, 3, 10, 11, 12, 13, 4, 5, 6, 7, 8, 9] (wN := (wX9 G h0 a0 wk f0 A0 ++ (wX7 G (a0 0) a1 f1 A1 ++ (wX1 G (a0 1) a2 f2 A2 ++ (wX6 G (a0 2) a3 f3 A3))))) rfl rfl rfl rfl rfl hl.1 (Nat.le_of_ble_eq_true rfl) dX9_check_44 (fun H locs hPD hS => ?_)
    refine lv_if_eq (tgt := 64) hx hb dX9_check_47 (by decide) (fun cc1 => ?_) (fun cc1 => ?_)
    · have h := (if_pos cc1).symm.trans h
      refine lv_sipush (v := 255) hx hb dX9_check_64 (by decide) ?_
      exact ww_f9_check_b67 C0 hk34 f1 l2 255 h _ _ _ hPD hS (lv_sub hl [0, 1, 2] rfl)
    · have h := (if_neg cc1).symm.trans h
      refine lv_aload_n hx hb dX9_check_50 rfl (lv_at hl 0 rfl) ?_
      refine va_get (D := G.1) (ci := 9) (v := .ref (a0 2)) (C := RX9) (T := TX9) (N := 15) hx hb hts inlX9 hown hK hPD.1 0 rfl rfl 2 (by decide) (hts _ gw_356) (fun _ h9 => h9) rfl dX9_check_51 ?_
      refine va_get (D := G.1) (ci := 6) (v := .ref (a3 0)) (C := RX6) (T := TX6) (N := 10) hx hb hts inlX6 hown hK hPD.1 8 rfl rfl 0 (by decide) (hts _ gw_357) (fun _ h9 => h9) rfl dX9_check_54 ?_
      refine lv_iload_n hx hb dX9_check_57 rfl (lv_at hl 2 rfl) ?_
      refine kSI (As := [.ref (a3 0), .int l2]) (rest := []) C0 (kt_X9_at l G (a3 0) 16 (A3 0) l2 (by decide)) gi_S_X9_188_X9_at (n := 2) rfl (by decide +kernel) ⟨rfl, rfl, Nat.le_of_ble_eq_true rfl, Nat.le_of_ble_eq_true rfl⟩ hPD hS [9] [0, 1, 2, 3, 4, 5, 6, 7, 8, 10, 11, 12, 13] [0, 1, 2, 3, 4, 5, 6, 7, 8, 13, 9, 10, 11, 12] (wN := (wX9 G h0 a0 wk f0 A0 ++ (wX7 G (a0 0) a1 f1 A1 ++ (wX1 G (a0 1) a2 f2 A2 ++ (wX6 G (a0 2) a3 f3 A3))))) rfl rfl rfl rfl rfl hl.1 (Nat.le_of_ble_eq_true rfl) dX9_check_58 (fun H locs hPD hS => ?_)
      refine lv_goto (tgt := 67) hx hb dX9_check_61 (by decide) ?_
      exact ww_f9_check_b67 C0 hk34 f1 l2 (f9_at 16 (A3 0) l2) h _ _ _ hPD hS (lv_sub hl [0, 1, 2] rfl)
set_option maxRecDepth 100000 in
set_option maxHeartbeats 4000000 in
theorem ww_f9_check_l34  (C0 : Cx cX9_check 4 (some .int) RX9 p s m args meth c G DA) {h0 : Nat} {a0 : Nat → Nat} {wk : Option Nat} {a1 : Nat → Nat} {a2 : Nat → Nat} {a3 : Nat → Nat} {f0 : Nat → Int32} {A0 : Nat → Nat → Int32} {A1 : Nat → Nat → Int32} {f2 : Nat → Int32} {A2 : Nat → Nat → Int32} {f3 : Nat → Int32} {A3 : Nat → Nat → Int32} {p1 : Int32}   {res : Int32 × (Nat → Int32)}  : ∀ (n : Nat) (f1 : Nat → Int32) (l2 : Int32), f9_check_l34 f0 A0 A1 f2 A2 f3 A3 p1  n f1 l2 = some res → ∀ (H : Heap) (locs : List Loc) (ls : Array Slot), WD G DA (wX9 G h0 a0 wk f0 A0 ++ (wX7 G (a0 0) a1 f1 A1 ++ (wX1 G (a0 1) a2 f2 A2 ++ (wX6 G (a0 2) a3 f3 A3)))) H → va_S DA s.heap H locs → lv_has ls 4 [(0, .ref h0), (1, .int p1), (2, .int l2)] → W p l e rmX9_check s m args below meth c H locs 0 0 (MQ below (QI G DA res.1 (wX9 G h0 a0 wk f0 A0 ++ (wX7 G (a0 0) a1 res.2 A1 ++ (wX1 G (a0 1) a2 f2 A2 ++ (wX6 G (a0 2) a3 f3 A3))))) args s 0 0 DA) (F0 m 34 ls []) := by
  intro n
  induction n with
  | zero => intro f1 l2 h; cases h
  | succ n ih => intro f1 l2 h; exact ww_f9_check_b34 C0  ih f1 l2 h
set_option maxRecDepth 100000 in
set_option maxHeartbeats 4000000 in
theorem kt_X9_check (l : Launch) (G : Gp) (h0 : Nat) (a0 : Nat → Nat) (wk : Option Nat) (a1 : Nat → Nat) (a2 : Nat → Nat) (a3 : Nat → Nat) (f0 : Nat → Int32) (A0 : Nat → Nat → Int32) (f1 : Nat → Int32) (A1 : Nat → Nat → Int32) (f2 : Nat → Int32) (A2 : Nat → Nat → Int32) (f3 : Nat → Int32) (A3 : Nat → Nat → Int32) (p1 : Int32) : ∀ {r : Int32 × (Nat → Int32)}, f9_check f0 A0 f1 A1 f2 A2 f3 A3 p1 = some r → CtrI l yX9_check cX9_check 4 (some .int) rmX9_check G [.ref h0, .int p1] (wX9 G h0 a0 wk f0 A0 ++ (wX7 G (a0 0) a1 f1 A1 ++ (wX1 G (a0 1) a2 f2 A2 ++ (wX6 G (a0 2) a3 f3 A3)))) r.1 (wX9 G h0 a0 wk f0 A0 ++ (wX7 G (a0 0) a1 r.2 A1 ++ (wX1 G (a0 1) a2 f2 A2 ++ (wX6 G (a0 2) a3 f3 A3)))) := by
  intro res h
  refine ctrI_of (cc := cX9_check) (maxL := 4) (ret := (some .int)) (by decide +kernel) rfl (Nat.le_of_ble_eq_true rfl) (fun p e s m below meth c DA C0 hP hD ls hl => ?_)
  have hPD : WD G DA (wX9 G h0 a0 wk f0 A0 ++ (wX7 G (a0 0) a1 f1 A1 ++ (wX1 G (a0 1) a2 f2 A2 ++ (wX6 G (a0 2) a3 f3 A3)))) s.heap := ⟨hP, hD⟩
  have hS : va_S DA s.heap s.heap [] := va_S.rf
  have hl : lv_has ls 4 [(0, .ref h0), (1, .int p1)] := hl
  obtain ⟨hx, hb, hml, hown, hts⟩ := C0.1
  have hK := C0.2.2.2.1
  unfold f9_check at h
  refine lv_iload_n hx hb dX9_check_0 rfl (lv_at hl 1 rfl) ?_
  refine lv_iconst (v := 0) hx hb dX9_check_1 (by decide) ?_
  refine lv_bipush (v := 16) hx hb dX9_check_2 (by decide) ?_
  refine kSI (As := [.int p1, .int 0, .int 16]) (rest := []) C0 (kt_X9_within l G  p1 0 16) gi_S_X9_90_X9_within (n := 3) rfl (by decide +kernel) ⟨rfl, rfl, Nat.le_of_ble_eq_true rfl, Nat.le_of_ble_eq_true rfl⟩ hPD hS [] [0, 1, 2, 3, 4, 5, 6, 7, 8, 9, 10, 11, 12, 13] [0, 1, 2, 3, 4, 5, 6, 7, 8, 9, 10, 11, 12, 13] (wN := (wX9 G h0 a0 wk f0 A0 ++ (wX7 G (a0 0) a1 f1 A1 ++ (wX1 G (a0 1) a2 f2 A2 ++ (wX6 G (a0 2) a3 f3 A3))))) rfl rfl rfl rfl rfl hl.1 (Nat.le_of_ble_eq_true rfl) dX9_check_4 (fun H locs hPD hS => ?_)
  refine lv_if_eq (tgt := 21) hx hb dX9_check_7 (by decide) (fun cc1 => ?_) (fun cc1 => ?_)
  · have h := (if_pos cc1).symm.trans h
    refine lv_bipush (v := (-2)) hx hb dX9_check_21 (by decide) ?_
    obtain rfl := Option.some.inj h
    exact eI C0 hPD.1 hPD.2 hS rfl dX9_check_23
  · have h := (if_neg cc1).symm.trans h
    refine lv_aload_n hx hb dX9_check_10 rfl (lv_at hl 0 rfl) ?_
    refine va_get (D := G.1) (ci := 9) (v := .ref (a0 0)) (C := RX9) (T := TX9) (N := 15) hx hb hts inlX9 hown hK hPD.1 0 rfl rfl 0 (by decide) (hts _ gw_366) (fun _ h9 => h9) rfl dX9_check_11 ?_
    refine lv_iload_n hx hb dX9_check_14 rfl (lv_at hl 1 rfl) ?_
    refine kVI (As := [.int p1]) (rest := []) C0 (kt_X7_holds l G (a0 0) a1 f1 A1 p1) gi_V_X9_132_X7_holds (n := 1) rfl (by decide +kernel) rfl ⟨rfl, rfl, Nat.le_of_ble_eq_true rfl, Nat.le_of_ble_eq_true rfl⟩ hPD hS 2 7 rfl rfl rfl [2, 3] [0, 1, 4, 5, 6, 7, 8, 9, 10, 11, 12, 13] [0, 1, 12, 13, 2, 3, 4, 5, 6, 7, 8, 9, 10, 11] (wN := (wX9 G h0 a0 wk f0 A0 ++ (wX7 G (a0 0) a1 f1 A1 ++ (wX1 G (a0 1) a2 f2 A2 ++ (wX6 G (a0 2) a3 f3 A3))))) rfl rfl rfl rfl rfl hl.1 (Nat.le_of_ble_eq_true rfl) dX9_check_15 (fun H locs hPD hS => ?_)
    refine lv_if_ne (tgt := 24) hx hb dX9_check_18 (by decide) (fun cc1 => ?_) (fun cc1 => ?_)
    · have h := (if_neg cc1).symm.trans h
      refine lv_aload_n hx hb dX9_check_24 rfl (lv_at hl 0 rfl) ?_
      refine va_get (D := G.1) (ci := 9) (v := .ref (a0 0)) (C := RX9) (T := TX9) (N := 15) hx hb hts inlX9 hown hK hPD.1 0 rfl rfl 0 (by decide) (hts _ gw_366) (fun _ h9 => h9) rfl dX9_check_25 ?_
      refine lv_iload_n hx hb dX9_check_28 rfl (lv_at hl 1 rfl) ?_
      refine kVV (As := [.int p1]) (rest := []) C0 (kt_X7_open l G (a0 0) a1 f1 A1 p1) gi_V_X9_135_X7_open (n := 1) rfl (by decide +kernel) rfl ⟨rfl, rfl, Nat.le_of_ble_eq_true rfl, Nat.le_of_ble_eq_true rfl⟩ hPD hS 2 7 rfl rfl rfl [2, 3] [0, 1, 4, 5, 6, 7, 8, 9, 10, 11, 12, 13] [0, 1, 12, 13, 2, 3, 4, 5, 6, 7, 8, 9, 10, 11] (wN := (wX9 G h0 a0 wk f0 A0 ++ (wX7 G (a0 0) a1 (f7_open f1 A1 p1) A1 ++ (wX1 G (a0 1) a2 f2 A2 ++ (wX6 G (a0 2) a3 f3 A3))))) rfl rfl rfl rfl rfl hl.1 (Nat.le_of_ble_eq_true rfl) dX9_check_29 (fun H locs hPD hS => ?_)
      refine lv_iconst (v := 0) hx hb dX9_check_32 (by decide) ?_
      refine lv_istore_n (lv' := [(2, .int 0), (0, .ref h0), (1, .int p1)]) hx hb dX9_check_33 rfl hl (by decide) rfl (fun ls hl => ?_)
      exact ww_f9_check_l34 C0 NF (f7_open f1 A1 p1) 0 h _ _ _ hPD hS (lv_sub hl [1, 2, 0] rfl)
    · have h := (if_pos cc1).symm.trans h
      refine lv_bipush (v := (-2)) hx hb dX9_check_21 (by decide) ?_
      obtain rfl := Option.some.inj h
      exact eI C0 hPD.1 hPD.2 hS rfl dX9_check_23
abbrev rmX9_keep : Room := { frames := 2, cells := 0, slots := 0, locals := 44 }
set_option maxRecDepth 100000 in
set_option maxHeartbeats 4000000 in
theorem kt_X9_keep (l : Launch) (G : Gp) (h0 : Nat) (a0 : Nat → Nat) (wk : Option Nat) (a1 : Nat → Nat) (a2 : Nat → Nat) (f0 : Nat → Int32) (A0 : Nat → Nat → Int32) (f1 : Nat → Int32) (A1 : Nat → Nat → Int32) (f2 : Nat → Int32) (A2 : Nat → Nat → Int32) : ∀ {r : Int32 × (Nat → Int32) × (Nat → Nat → Int32) × (Nat → Int32)}, f9_keep f0 A0 f1 A1 f2 A2 = some r → CtrI l yX9_keep cX9_keep 1 (some .int) rmX9_keep G [.ref h0] (wX9 G h0 a0 wk f0 A0 ++ (wX6 G (a0 2) a1 f1 A1 ++ (wX6 G (a0 4) a2 f2 A2))) r.1 (wX9 G h0 a0 wk r.2.1 A0 ++ (wX6 G (a0 2) a1 f1 A1 ++ (wX6 G (a0 4) a2 r.2.2.2 r.2.2.1))) := by
  intro res h
  refine ctrI_of (cc := cX9_keep) (maxL := 1) (ret := (some .int)) (by decide +kernel) rfl (Nat.le_of_ble_eq_true rfl) (fun p e s m below meth c DA C0 hP hD ls hl => ?_)
  have hPD : WD G DA (wX9 G h0 a0 wk f0 A0 ++ (wX6 G (a0 2) a1 f1 A1 ++ (wX6 G (a0 4) a2 f2 A2))) s.heap := ⟨hP, hD⟩
  have hS : va_S DA s.heap s.heap [] := va_S.rf
  have hl : lv_has ls 1 [(0, .ref h0)] := hl
  obtain ⟨hx, hb, hml, hown, hts⟩ := C0.1
  have hK := C0.2.2.2.1
  unfold f9_keep at h
  refine lv_aload_n hx hb dX9_keep_0 rfl (lv_at hl 0 rfl) ?_
  refine va_get (D := G.1) (ci := 9) (v := .ref (a0 4)) (C := RX9) (T := TX9) (N := 15) hx hb hts inlX9 hown hK hPD.1 0 rfl rfl 4 (by decide) (hts _ gw_455) (fun _ h9 => h9) rfl dX9_keep_1 ?_
  refine lv_aload_n hx hb dX9_keep_4 rfl (lv_at hl 0 rfl) ?_
  refine va_get (D := G.1) (ci := 9) (v := .ref (a0 2)) (C := RX9) (T := TX9) (N := 15) hx hb hts inlX9 hown hK hPD.1 0 rfl rfl 2 (by decide) (hts _ gw_356) (fun _ h9 => h9) rfl dX9_keep_5 ?_
  obtain ⟨q_1, hq_1, h⟩ := ob2 h
  refine kVV (As := [.ref (a0 2)]) (rest := []) C0 (kt_X6_copy l G (a0 4) a2 (a0 2) a1 f2 A2 f1 A1 hq_1) gi_V_X9_178_X6_copy (n := 1) rfl (by decide +kernel) rfl ⟨rfl, rfl, Nat.le_of_ble_eq_true rfl, Nat.le_of_ble_eq_true rfl⟩ hPD hS 8 6 rfl rfl rfl [8, 9, 10, 11, 12, 13, 2, 3, 4, 5, 6, 7] [0, 1] [0, 1, 8, 9, 10, 11, 12, 13, 2, 3, 4, 5, 6, 7] (wN := (wX9 G h0 a0 wk f0 A0 ++ (wX6 G (a0 2) a1 f1 A1 ++ (wX6 G (a0 4) a2 q_1.2 q_1.1)))) rfl rfl rfl rfl rfl hl.1 (Nat.le_of_ble_eq_true rfl) dX9_keep_8 (fun H locs hPD hS => ?_)
  refine lv_aload_n hx hb dX9_keep_11 rfl (lv_at hl 0 rfl) ?_
  refine lv_iconst (v := 1) hx hb dX9_keep_12 (by decide) ?_
  refine va_put (D := G.1) (ci := 9) (v := .int 1) (ty := .boolean) (C := RX9) (T := TX9) (N := 15) hx hb hts inlX9 tyX9 tyX9_ok nmX9 hown hK hPD.1 hPD.2 hS 0 rfl rfl 14 (by decide) (hts _ gw_456) (fun _ h9 => h9) rfl (by decide +kernel) rfl rfl (Nat.le_of_ble_eq_true rfl) dX9_keep_13 (fun H locs hP hD hS => ?_)
  obtain ⟨f0_2, ef0_2, h⟩ := lvl h
  have hPD : WD G DA (wX9 G h0 a0 wk f0_2 A0 ++ (wX6 G (a0 2) a1 f1 A1 ++ (wX6 G (a0 4) a2 q_1.2 q_1.1))) H := by rw [ef0_2]; exact ⟨hP, hD⟩
  clear ef0_2 hP hD
  refine lv_aload_n hx hb dX9_keep_16 rfl (lv_at hl 0 rfl) ?_
  refine va_get (D := G.1) (ci := 9) (v := .ref (a0 2)) (C := RX9) (T := TX9) (N := 15) hx hb hts inlX9 hown hK hPD.1 0 rfl rfl 2 (by decide) (hts _ gw_356) (fun _ h9 => h9) rfl dX9_keep_17 ?_
  refine va_get (D := G.1) (ci := 6) (v := .int (f1 8)) (C := RX6) (T := TX6) (N := 10) hx hb hts inlX6 hown hK hPD.1 2 rfl rfl 8 (by decide) (hts _ gw_445) (fun _ h9 => h9) rfl dX9_keep_20 ?_
  obtain rfl := Option.some.inj h
  exact eI C0 hPD.1 hPD.2 hS rfl dX9_keep_23
abbrev rmX9_undo : Room := { frames := 2, cells := 0, slots := 0, locals := 44 }
set_option maxRecDepth 100000 in
set_option maxHeartbeats 4000000 in
theorem kt_X9_undo (l : Launch) (G : Gp) (h0 : Nat) (a0 : Nat → Nat) (wk : Option Nat) (a1 : Nat → Nat) (a2 : Nat → Nat) (f0 : Nat → Int32) (A0 : Nat → Nat → Int32) (f1 : Nat → Int32) (A1 : Nat → Nat → Int32) (f2 : Nat → Int32) (A2 : Nat → Nat → Int32) : ∀ {r : Int32 × (Nat → Nat → Int32) × (Nat → Int32)}, f9_undo f0 A0 f1 A1 f2 A2 = some r → CtrI l yX9_undo cX9_undo 1 (some .boolean) rmX9_undo G [.ref h0] (wX9 G h0 a0 wk f0 A0 ++ (wX6 G (a0 2) a1 f1 A1 ++ (wX6 G (a0 4) a2 f2 A2))) r.1 (wX9 G h0 a0 wk f0 A0 ++ (wX6 G (a0 2) a1 r.2.2 r.2.1 ++ (wX6 G (a0 4) a2 f2 A2))) := by
  intro res h
  refine ctrI_of (cc := cX9_undo) (maxL := 1) (ret := (some .boolean)) (by decide +kernel) rfl (Nat.le_of_ble_eq_true rfl) (fun p e s m below meth c DA C0 hP hD ls hl => ?_)
  have hPD : WD G DA (wX9 G h0 a0 wk f0 A0 ++ (wX6 G (a0 2) a1 f1 A1 ++ (wX6 G (a0 4) a2 f2 A2))) s.heap := ⟨hP, hD⟩
  have hS : va_S DA s.heap s.heap [] := va_S.rf
  have hl : lv_has ls 1 [(0, .ref h0)] := hl
  obtain ⟨hx, hb, hml, hown, hts⟩ := C0.1
  have hK := C0.2.2.2.1
  unfold f9_undo at h
  refine lv_aload_n hx hb dX9_undo_0 rfl (lv_at hl 0 rfl) ?_
  refine va_get (D := G.1) (ci := 9) (v := .int (f0 14)) (C := RX9) (T := TX9) (N := 15) hx hb hts inlX9 hown hK hPD.1 0 rfl rfl 14 (by decide) (hts _ gw_456) (fun _ h9 => h9) rfl dX9_undo_1 ?_
  refine lv_if_eq (tgt := 18) hx hb dX9_undo_4 (by decide) (fun cc1 => ?_) (fun cc1 => ?_)
  · have h := (if_pos cc1).symm.trans h
    refine lv_aload_n hx hb dX9_undo_18 rfl (lv_at hl 0 rfl) ?_
    refine va_get (D := G.1) (ci := 9) (v := .int (f0 14)) (C := RX9) (T := TX9) (N := 15) hx hb hts inlX9 hown hK hPD.1 0 rfl rfl 14 (by decide) (hts _ gw_456) (fun _ h9 => h9) rfl dX9_undo_19 ?_
    obtain ⟨hz, h⟩ := ob h
    obtain rfl := Option.some.inj h
    exact eZ C0 hPD.1 hPD.2 hS rfl (nbool (Classical.not_not.mp hz)) dX9_undo_22
  · have h := (if_neg cc1).symm.trans h
    refine lv_aload_n hx hb dX9_undo_7 rfl (lv_at hl 0 rfl) ?_
    refine va_get (D := G.1) (ci := 9) (v := .ref (a0 2)) (C := RX9) (T := TX9) (N := 15) hx hb hts inlX9 hown hK hPD.1 0 rfl rfl 2 (by decide) (hts _ gw_356) (fun _ h9 => h9) rfl dX9_undo_8 ?_
    refine lv_aload_n hx hb dX9_undo_11 rfl (lv_at hl 0 rfl) ?_
    refine va_get (D := G.1) (ci := 9) (v := .ref (a0 4)) (C := RX9) (T := TX9) (N := 15) hx hb hts inlX9 hown hK hPD.1 0 rfl rfl 4 (by decide) (hts _ gw_455) (fun _ h9 => h9) rfl dX9_undo_12 ?_
    obtain ⟨q_1, hq_1, h⟩ := ob2 h
    refine kVV (As := [.ref (a0 4)]) (rest := []) C0 (kt_X6_copy l G (a0 2) a1 (a0 4) a2 f1 A1 f2 A2 hq_1) gi_V_X9_178_X6_copy (n := 1) rfl (by decide +kernel) rfl ⟨rfl, rfl, Nat.le_of_ble_eq_true rfl, Nat.le_of_ble_eq_true rfl⟩ hPD hS 2 6 rfl rfl rfl [2, 3, 4, 5, 6, 7, 8, 9, 10, 11, 12, 13] [0, 1] [0, 1, 2, 3, 4, 5, 6, 7, 8, 9, 10, 11, 12, 13] (wN := (wX9 G h0 a0 wk f0 A0 ++ (wX6 G (a0 2) a1 q_1.2 q_1.1 ++ (wX6 G (a0 4) a2 f2 A2)))) rfl rfl rfl rfl rfl hl.1 (Nat.le_of_ble_eq_true rfl) dX9_undo_15 (fun H locs hPD hS => ?_)
    refine lv_aload_n hx hb dX9_undo_18 rfl (lv_at hl 0 rfl) ?_
    refine va_get (D := G.1) (ci := 9) (v := .int (f0 14)) (C := RX9) (T := TX9) (N := 15) hx hb hts inlX9 hown hK hPD.1 0 rfl rfl 14 (by decide) (hts _ gw_456) (fun _ h9 => h9) rfl dX9_undo_19 ?_
    obtain ⟨hz, h⟩ := ob h
    obtain rfl := Option.some.inj h
    exact eZ C0 hPD.1 hPD.2 hS rfl (nbool (Classical.not_not.mp hz)) dX9_undo_22
abbrev rmX9_worst : Room := { frames := 3, cells := 0, slots := 0, locals := 64 }
set_option maxRecDepth 100000 in
set_option maxHeartbeats 4000000 in
theorem ww_f9_worst_b7  (C0 : Cx cX9_worst 5 (some .int) RX9 p s m args meth c G DA) {h0 : Nat} {a0 : Nat → Nat} {wk : Option Nat} {a1 : Nat → Nat} {a2 : Nat → Nat} {f0 : Nat → Int32} {A0 : Nat → Nat → Int32} {f1 : Nat → Int32} {A1 : Nat → Nat → Int32} {f2 : Nat → Int32} {A2 : Nat → Nat → Int32}  {k7 : Int32 → Int32 → Int32 → Option (Int32)} {res : Int32}  (hk7 : ∀ (l1 : Int32) (l2 : Int32) (l3 : Int32), k7 l1 l2 l3 = some res → ∀ (H : Heap) (locs : List Loc) (ls : Array Slot), WD G DA (wX9 G h0 a0 wk f0 A0 ++ (wX1 G (a0 1) a1 f1 A1 ++ (wX6 G (a0 2) a2 f2 A2))) H → va_S DA s.heap H locs → lv_has ls 5 [(0, .ref h0), (1, .int l1), (2, .int l2), (3, .int l3)] → W p l e rmX9_worst s m args below meth c H locs 0 0 (MQ below (QI G DA res (wX9 G h0 a0 wk f0 A0 ++ (wX1 G (a0 1) a1 f1 A1 ++ (wX6 G (a0 2) a2 f2 A2)))) args s 0 0 DA) (F0 m 7 ls [])) : ∀ (l1 : Int32) (l2 : Int32) (l3 : Int32), f9_worst_b7 f0 A0 f1 A1 f2 A2  k7 l1 l2 l3 = some res → ∀ (H : Heap) (locs : List Loc) (ls : Array Slot), WD G DA (wX9 G h0 a0 wk f0 A0 ++ (wX1 G (a0 1) a1 f1 A1 ++ (wX6 G (a0 2) a2 f2 A2))) H → va_S DA s.heap H locs → lv_has ls 5 [(0, .ref h0), (1, .int l1), (2, .int l2), (3, .int l3)] → W p l e rmX9_worst s m args below meth c H locs 0 0 (MQ below (QI G DA res (wX9 G h0 a0 wk f0 A0 ++ (wX1 G (a0 1) a1 f1 A1 ++ (wX6 G (a0 2) a2 f2 A2)))) args s 0 0 DA) (F0 m 7 ls []) := by
  obtain ⟨hx, hb, hml, hown, hts⟩ := C0.1
  have hK := C0.2.2.2.1
  intro l1 l2 l3 h _ _ _ hPD hS hl
  unfold f9_worst_b7 at h
  refine lv_iload_n hx hb dX9_worst_7 rfl (lv_at hl 3 rfl) ?_
  refine lv_bipush (v := 16) hx hb dX9_worst_8 (by decide) ?_
  refine lv_icmp_ge (tgt := 66) hx hb dX9_worst_10 (by decide) (fun cc1 => ?_) (fun cc1 => ?_)
  · have h := (if_pos cc1).symm.trans h
    refine lv_iload_n hx hb dX9_worst_66 rfl (lv_at hl 2 rfl) ?_
    obtain rfl := Option.some.inj h
    exact eI C0 hPD.1 hPD.2 hS rfl dX9_worst_67
  · have h := (if_neg cc1).symm.trans h
    refine lv_aload_n hx hb dX9_worst_13 rfl (lv_at hl 0 rfl) ?_
    refine va_get (D := G.1) (ci := 9) (v := .ref (a0 2)) (C := RX9) (T := TX9) (N := 15) hx hb hts inlX9 hown hK hPD.1 0 rfl rfl 2 (by decide) (hts _ gw_356) (fun _ h9 => h9) rfl dX9_worst_14 ?_
    refine va_get (D := G.1) (ci := 6) (v := .ref (a2 0)) (C := RX6) (T := TX6) (N := 10) hx hb hts inlX6 hown hK hPD.1 6 rfl rfl 0 (by decide) (hts _ gw_357) (fun _ h9 => h9) rfl dX9_worst_17 ?_
    refine lv_iload_n hx hb dX9_worst_20 rfl (lv_at hl 3 rfl) ?_
    refine kSI (As := [.ref (a2 0), .int l3]) (rest := []) C0 (kt_X9_at l G (a2 0) 16 (A2 0) l3 (by decide)) gi_S_X9_188_X9_at (n := 2) rfl (by decide +kernel) ⟨rfl, rfl, Nat.le_of_ble_eq_true rfl, Nat.le_of_ble_eq_true rfl⟩ hPD hS [7] [0, 1, 2, 3, 4, 5, 6, 8, 9, 10, 11] [0, 1, 2, 3, 4, 5, 6, 11, 7, 8, 9, 10] (wN := (wX9 G h0 a0 wk f0 A0 ++ (wX1 G (a0 1) a1 f1 A1 ++ (wX6 G (a0 2) a2 f2 A2)))) rfl rfl rfl rfl rfl hl.1 (Nat.le_of_ble_eq_true rfl) dX9_worst_21 (fun H locs hPD hS => ?_)
    refine lv_aload_n hx hb dX9_worst_24 rfl (lv_at hl 0 rfl) ?_
    refine va_get (D := G.1) (ci := 9) (v := .ref (a0 2)) (C := RX9) (T := TX9) (N := 15) hx hb hts inlX9 hown hK hPD.1 0 rfl rfl 2 (by decide) (hts _ gw_356) (fun _ h9 => h9) rfl dX9_worst_25 ?_
    refine va_get (D := G.1) (ci := 6) (v := .ref (a2 1)) (C := RX6) (T := TX6) (N := 10) hx hb hts inlX6 hown hK hPD.1 6 rfl rfl 1 (by decide) (hts _ gw_359) (fun _ h9 => h9) rfl dX9_worst_28 ?_
    refine lv_iload_n hx hb dX9_worst_31 rfl (lv_at hl 3 rfl) ?_
    refine kSI (As := [.ref (a2 1), .int l3]) (rest := [.int (f9_at 16 (A2 0) l3)]) C0 (kt_X9_at l G (a2 1) 16 (A2 1) l3 (by decide)) gi_S_X9_188_X9_at (n := 2) rfl (by decide +kernel) ⟨rfl, rfl, Nat.le_of_ble_eq_true rfl, Nat.le_of_ble_eq_true rfl⟩ hPD hS [8] [0, 1, 2, 3, 4, 5, 6, 7, 9, 10, 11] [0, 1, 2, 3, 4, 5, 6, 7, 11, 8, 9, 10] (wN := (wX9 G h0 a0 wk f0 A0 ++ (wX1 G (a0 1) a1 f1 A1 ++ (wX6 G (a0 2) a2 f2 A2)))) rfl rfl rfl rfl rfl hl.1 (Nat.le_of_ble_eq_true rfl) dX9_worst_32 (fun H locs hPD hS => ?_)
    refine lv_imul hx hb dX9_worst_35 ?_
    refine lv_istore (lv' := [(4, .int ((f9_at 16 (A2 0) l3) * (f9_at 16 (A2 1) l3))), (0, .ref h0), (1, .int l1), (2, .int l2), (3, .int l3)]) hx hb dX9_worst_36 hl (by decide) rfl (fun ls hl => ?_)
    refine lv_aload_n hx hb dX9_worst_38 rfl (lv_at hl 1 rfl) ?_
    refine va_get (D := G.1) (ci := 9) (v := .ref (a0 1)) (C := RX9) (T := TX9) (N := 15) hx hb hts inlX9 hown hK hPD.1 0 rfl rfl 1 (by decide) (hts _ gw_354) (fun _ h9 => h9) rfl dX9_worst_39 ?_
    refine lv_iload_n hx hb dX9_worst_42 rfl (lv_at hl 4 rfl) ?_
    refine kVI (As := [.int l3]) (rest := []) C0 (kt_X1_isTold l G (a0 1) a1 f1 A1 l3) gi_V_X9_108_X1_isTold (n := 1) rfl (by decide +kernel) rfl ⟨rfl, rfl, Nat.le_of_ble_eq_true rfl, Nat.le_of_ble_eq_true rfl⟩ hPD hS 2 1 rfl rfl rfl [2, 3, 4, 5] [0, 1, 6, 7, 8, 9, 10, 11] [0, 1, 8, 9, 10, 11, 2, 3, 4, 5, 6, 7] (wN := (wX9 G h0 a0 wk f0 A0 ++ (wX1 G (a0 1) a1 f1 A1 ++ (wX6 G (a0 2) a2 f2 A2)))) rfl rfl rfl rfl rfl hl.1 (Nat.le_of_ble_eq_true rfl) dX9_worst_43 (fun H locs hPD hS => ?_)
    refine lv_if_eq (tgt := 60) hx hb dX9_worst_46 (by decide) (fun cc1 => ?_) (fun cc1 => ?_)
    · have h := (if_pos cc1).symm.trans h
      refine lv_iinc (v := l3 + 1) (lv' := [(3, .int (l3 + 1)), (4, .int ((f9_at 16 (A2 0) l3) * (f9_at 16 (A2 1) l3))), (0, .ref h0), (1, .int l1), (2, .int l2)]) hx hb dX9_worst_60 hl (k := 4) rfl rfl (by decide) rfl (fun ls hl => ?_)
      refine lv_goto (tgt := 7) hx hb dX9_worst_63 (by decide) ?_
      exact hk7 l1 l2 (l3 + 1) h _ _ _ hPD hS (lv_sub hl [2, 3, 4, 0] rfl)
    · have h := (if_neg cc1).symm.trans h
      refine lv_iload hx hb dX9_worst_49 (lv_at hl 0 rfl) ?_
      refine lv_iload_n hx hb dX9_worst_51 rfl (lv_at hl 2 rfl) ?_
      refine lv_icmp_le (tgt := 60) hx hb dX9_worst_52 (by decide) (fun cc1 => ?_) (fun cc1 => ?_)
      · have h := (if_pos cc1).symm.trans h
        refine lv_iinc (v := l3 + 1) (lv' := [(3, .int (l3 + 1)), (4, .int ((f9_at 16 (A2 0) l3) * (f9_at 16 (A2 1) l3))), (0, .ref h0), (1, .int l1), (2, .int l2)]) hx hb dX9_worst_60 hl (k := 4) rfl rfl (by decide) rfl (fun ls hl => ?_)
        refine lv_goto (tgt := 7) hx hb dX9_worst_63 (by decide) ?_
        exact hk7 l1 l2 (l3 + 1) h _ _ _ hPD hS (lv_sub hl [2, 3, 4, 0] rfl)
      · have h := (if_neg cc1).symm.trans h
        refine lv_iload hx hb dX9_worst_55 (lv_at hl 0 rfl) ?_
        refine lv_istore_n (lv' := [(1, .int ((f9_at 16 (A2 0) l3) * (f9_at 16 (A2 1) l3))), (4, .int ((f9_at 16 (A2 0) l3) * (f9_at 16 (A2 1) l3))), (0, .ref h0), (2, .int l2), (3, .int l3)]) hx hb dX9_worst_57 rfl hl (by decide) rfl (fun ls hl => ?_)
        refine lv_iload_n hx hb dX9_worst_58 rfl (lv_at hl 4 rfl) ?_
        refine lv_istore_n (lv' := [(2, .int l3), (1, .int ((f9_at 16 (A2 0) l3) * (f9_at 16 (A2 1) l3))), (4, .int ((f9_at 16 (A2 0) l3) * (f9_at 16 (A2 1) l3))), (0, .ref h0), (3, .int l3)]) hx hb dX9_worst_59 rfl hl (by decide) rfl (fun ls hl => ?_)
        refine lv_iinc (v := l3 + 1) (lv' := [(3, .int (l3 + 1)), (2, .int l3), (1, .int ((f9_at 16 (A2 0) l3) * (f9_at 16 (A2 1) l3))), (4, .int ((f9_at 16 (A2 0) l3) * (f9_at 16 (A2 1) l3))), (0, .ref h0)]) hx hb dX9_worst_60 hl (k := 4) rfl rfl (by decide) rfl (fun ls hl => ?_)
        refine lv_goto (tgt := 7) hx hb dX9_worst_63 (by decide) ?_
        exact hk7 ((f9_at 16 (A2 0) l3) * (f9_at 16 (A2 1) l3)) l3 (l3 + 1) h _ _ _ hPD hS (lv_sub hl [4, 2, 1, 0] rfl)
set_option maxRecDepth 100000 in
set_option maxHeartbeats 4000000 in
theorem ww_f9_worst_l7  (C0 : Cx cX9_worst 5 (some .int) RX9 p s m args meth c G DA) {h0 : Nat} {a0 : Nat → Nat} {wk : Option Nat} {a1 : Nat → Nat} {a2 : Nat → Nat} {f0 : Nat → Int32} {A0 : Nat → Nat → Int32} {f1 : Nat → Int32} {A1 : Nat → Nat → Int32} {f2 : Nat → Int32} {A2 : Nat → Nat → Int32}   {res : Int32}  : ∀ (n : Nat) (l1 : Int32) (l2 : Int32) (l3 : Int32), f9_worst_l7 f0 A0 f1 A1 f2 A2  n l1 l2 l3 = some res → ∀ (H : Heap) (locs : List Loc) (ls : Array Slot), WD G DA (wX9 G h0 a0 wk f0 A0 ++ (wX1 G (a0 1) a1 f1 A1 ++ (wX6 G (a0 2) a2 f2 A2))) H → va_S DA s.heap H locs → lv_has ls 5 [(0, .ref h0), (1, .int l1), (2, .int l2), (3, .int l3)] → W p l e rmX9_worst s m args below meth c H locs 0 0 (MQ below (QI G DA res (wX9 G h0 a0 wk f0 A0 ++ (wX1 G (a0 1) a1 f1 A1 ++ (wX6 G (a0 2) a2 f2 A2)))) args s 0 0 DA) (F0 m 7 ls []) := by
  intro n
  induction n with
  | zero => intro l1 l2 l3 h; cases h
  | succ n ih => intro l1 l2 l3 h; exact ww_f9_worst_b7 C0  ih l1 l2 l3 h
set_option maxRecDepth 100000 in
set_option maxHeartbeats 4000000 in
theorem kt_X9_worst (l : Launch) (G : Gp) (h0 : Nat) (a0 : Nat → Nat) (wk : Option Nat) (a1 : Nat → Nat) (a2 : Nat → Nat) (f0 : Nat → Int32) (A0 : Nat → Nat → Int32) (f1 : Nat → Int32) (A1 : Nat → Nat → Int32) (f2 : Nat → Int32) (A2 : Nat → Nat → Int32) : ∀ {r : Int32}, f9_worst f0 A0 f1 A1 f2 A2 = some r → CtrI l yX9_worst cX9_worst 5 (some .int) rmX9_worst G [.ref h0] (wX9 G h0 a0 wk f0 A0 ++ (wX1 G (a0 1) a1 f1 A1 ++ (wX6 G (a0 2) a2 f2 A2))) r (wX9 G h0 a0 wk f0 A0 ++ (wX1 G (a0 1) a1 f1 A1 ++ (wX6 G (a0 2) a2 f2 A2))) := by
  intro res h
  refine ctrI_of (cc := cX9_worst) (maxL := 5) (ret := (some .int)) (by decide +kernel) rfl (Nat.le_of_ble_eq_true rfl) (fun p e s m below meth c DA C0 hP hD ls hl => ?_)
  have hPD : WD G DA (wX9 G h0 a0 wk f0 A0 ++ (wX1 G (a0 1) a1 f1 A1 ++ (wX6 G (a0 2) a2 f2 A2))) s.heap := ⟨hP, hD⟩
  have hS : va_S DA s.heap s.heap [] := va_S.rf
  have hl : lv_has ls 5 [(0, .ref h0)] := hl
  obtain ⟨hx, hb, hml, hown, hts⟩ := C0.1
  have hK := C0.2.2.2.1
  unfold f9_worst at h
  refine lv_iconst (v := (-1)) hx hb dX9_worst_0 (by decide) ?_
  refine lv_istore_n (lv' := [(1, .int (-1)), (0, .ref h0)]) hx hb dX9_worst_1 rfl hl (by decide) rfl (fun ls hl => ?_)
  refine lv_bipush (v := (-2)) hx hb dX9_worst_2 (by decide) ?_
  refine lv_istore_n (lv' := [(2, .int (-2)), (1, .int (-1)), (0, .ref h0)]) hx hb dX9_worst_4 rfl hl (by decide) rfl (fun ls hl => ?_)
  refine lv_iconst (v := 0) hx hb dX9_worst_5 (by decide) ?_
  refine lv_istore_n (lv' := [(3, .int 0), (2, .int (-2)), (1, .int (-1)), (0, .ref h0)]) hx hb dX9_worst_6 rfl hl (by decide) rfl (fun ls hl => ?_)
  exact ww_f9_worst_l7 C0 NF (-1) (-2) 0 h _ _ _ hPD hS (lv_sub hl [3, 2, 1, 0] rfl)
abbrev rmX9_ways : Room := { frames := 5, cells := 0, slots := 0, locals := 115 }
set_option maxRecDepth 100000 in
set_option maxHeartbeats 4000000 in
theorem kt_X9_ways (l : Launch) (G : Gp) (h0 : Nat) (a0 : Nat → Nat) (wk : Option Nat) (a1 : Nat → Nat) (f0 : Nat → Int32) (A0 : Nat → Nat → Int32) (f1 : Nat → Int32) (A1 : Nat → Nat → Int32) (p1 : Int32) (p2 : Int32) : ∀ {r : Int32 × (Nat → Nat → Int32)}, f9_ways f0 A0 f1 A1 p1 p2 = some r → CtrI l yX9_ways cX9_ways 3 (some .int) rmX9_ways G [.ref h0, .int p1, .int p2] (wX9 G h0 a0 wk f0 A0 ++ (wX1 G (a0 1) a1 f1 A1)) r.1 (wX9 G h0 a0 wk f0 A0 ++ (wX1 G (a0 1) a1 f1 r.2)) := by
  intro res h
  refine ctrI_of (cc := cX9_ways) (maxL := 3) (ret := (some .int)) (by decide +kernel) rfl (Nat.le_of_ble_eq_true rfl) (fun p e s m below meth c DA C0 hP hD ls hl => ?_)
  have hPD : WD G DA (wX9 G h0 a0 wk f0 A0 ++ (wX1 G (a0 1) a1 f1 A1)) s.heap := ⟨hP, hD⟩
  have hS : va_S DA s.heap s.heap [] := va_S.rf
  have hl : lv_has ls 3 [(0, .ref h0), (1, .int p1), (2, .int p2)] := hl
  obtain ⟨hx, hb, hml, hown, hts⟩ := C0.1
  have hK := C0.2.2.2.1
  unfold f9_ways at h
  refine lv_aload_n hx hb dX9_ways_0 rfl (lv_at hl 0 rfl) ?_
  refine va_get (D := G.1) (ci := 9) (v := .ref (a0 1)) (C := RX9) (T := TX9) (N := 15) hx hb hts inlX9 hown hK hPD.1 0 rfl rfl 1 (by decide) (hts _ gw_354) (fun _ h9 => h9) rfl dX9_ways_1 ?_
  refine lv_iload_n hx hb dX9_ways_4 rfl (lv_at hl 1 rfl) ?_
  refine kVI (As := [.int p1]) (rest := []) C0 (kt_X1_isTold l G (a0 1) a1 f1 A1 p1) gi_V_X9_108_X1_isTold (n := 1) rfl (by decide +kernel) rfl ⟨rfl, rfl, Nat.le_of_ble_eq_true rfl, Nat.le_of_ble_eq_true rfl⟩ hPD hS 2 1 rfl rfl rfl [2, 3, 4, 5] [0, 1] [0, 1, 2, 3, 4, 5] (wN := (wX9 G h0 a0 wk f0 A0 ++ (wX1 G (a0 1) a1 f1 A1))) rfl rfl rfl rfl rfl hl.1 (Nat.le_of_ble_eq_true rfl) dX9_ways_5 (fun H locs hPD hS => ?_)
  refine lv_if_eq (tgt := 22) hx hb dX9_ways_8 (by decide) (fun cc1 => ?_) (fun cc1 => ?_)
  · have h := (if_pos cc1).symm.trans h
    refine lv_iconst (v := (-1)) hx hb dX9_ways_22 (by decide) ?_
    obtain rfl := Option.some.inj h
    exact eI C0 hPD.1 hPD.2 hS rfl dX9_ways_23
  · have h := (if_neg cc1).symm.trans h
    refine lv_aload_n hx hb dX9_ways_11 rfl (lv_at hl 0 rfl) ?_
    refine va_get (D := G.1) (ci := 9) (v := .ref (a0 1)) (C := RX9) (T := TX9) (N := 15) hx hb hts inlX9 hown hK hPD.1 0 rfl rfl 1 (by decide) (hts _ gw_354) (fun _ h9 => h9) rfl dX9_ways_12 ?_
    refine lv_iload_n hx hb dX9_ways_15 rfl (lv_at hl 2 rfl) ?_
    refine kVI (As := [.int p2]) (rest := []) C0 (kt_X1_isTold l G (a0 1) a1 f1 A1 p2) gi_V_X9_108_X1_isTold (n := 1) rfl (by decide +kernel) rfl ⟨rfl, rfl, Nat.le_of_ble_eq_true rfl, Nat.le_of_ble_eq_true rfl⟩ hPD hS 2 1 rfl rfl rfl [2, 3, 4, 5] [0, 1] [0, 1, 2, 3, 4, 5] (wN := (wX9 G h0 a0 wk f0 A0 ++ (wX1 G (a0 1) a1 f1 A1))) rfl rfl rfl rfl rfl hl.1 (Nat.le_of_ble_eq_true rfl) dX9_ways_16 (fun H locs hPD hS => ?_)
    refine lv_if_ne (tgt := 24) hx hb dX9_ways_19 (by decide) (fun cc1 => ?_) (fun cc1 => ?_)
    · have h := (if_neg cc1).symm.trans h
      refine lv_aload_n hx hb dX9_ways_24 rfl (lv_at hl 0 rfl) ?_
      refine va_get (D := G.1) (ci := 9) (v := .ref (a0 1)) (C := RX9) (T := TX9) (N := 15) hx hb hts inlX9 hown hK hPD.1 0 rfl rfl 1 (by decide) (hts _ gw_354) (fun _ h9 => h9) rfl dX9_ways_25 ?_
      refine lv_iload_n hx hb dX9_ways_28 rfl (lv_at hl 1 rfl) ?_
      refine lv_iload_n hx hb dX9_ways_29 rfl (lv_at hl 2 rfl) ?_
      obtain ⟨q_1, hq_1, h⟩ := ob2 h
      refine kVI (As := [.int p1, .int p2]) (rest := []) C0 (kt_X1_shortestWays l G (a0 1) a1 f1 A1 p1 p2 hq_1) gi_V_X9_227_X1_shortestWays (n := 2) rfl (by decide +kernel) rfl ⟨rfl, rfl, Nat.le_of_ble_eq_true rfl, Nat.le_of_ble_eq_true rfl⟩ hPD hS 2 1 rfl rfl rfl [2, 3, 4, 5] [0, 1] [0, 1, 2, 3, 4, 5] (wN := (wX9 G h0 a0 wk f0 A0 ++ (wX1 G (a0 1) a1 f1 q_1.2))) rfl rfl rfl rfl rfl hl.1 (Nat.le_of_ble_eq_true rfl) dX9_ways_30 (fun H locs hPD hS => ?_)
      obtain rfl := Option.some.inj h
      exact eI C0 hPD.1 hPD.2 hS rfl dX9_ways_33
    · have h := (if_pos cc1).symm.trans h
      refine lv_iconst (v := (-1)) hx hb dX9_ways_22 (by decide) ?_
      obtain rfl := Option.some.inj h
      exact eI C0 hPD.1 hPD.2 hS rfl dX9_ways_23
abbrev rmX9_way : Room := { frames := 4, cells := 0, slots := 0, locals := 91 }
set_option maxRecDepth 100000 in
set_option maxHeartbeats 4000000 in
theorem ww_f9_way_b40  (C0 : Cx cX9_way 5 (some .int) RX9 p s m args meth c G DA) {h0 : Nat} {a0 : Nat → Nat} {wk : Option Nat} {a1 : Nat → Nat} {f0 : Nat → Int32} {A0 : Nat → Nat → Int32} {f1 : Nat → Int32} {p1 : Int32} {p2 : Int32} {p3 : Int32}   {res : Int32 × (Nat → Nat → Int32)}  : ∀ (A1 : Nat → Nat → Int32), f9_way_b40 f0 A0 f1 p1 p2 p3  A1 = some res → ∀ (H : Heap) (locs : List Loc) (ls : Array Slot), WD G DA (wX9 G h0 a0 wk f0 A0 ++ (wX1 G (a0 1) a1 f1 A1)) H → va_S DA s.heap H locs → lv_has ls 5 [(0, .ref h0), (1, .int p1), (2, .int p2), (3, .int p3)] → W p l e rmX9_way s m args below meth c H locs 0 0 (MQ below (QI G DA res.1 (wX9 G h0 a0 wk f0 A0 ++ (wX1 G (a0 1) a1 f1 res.2))) args s 0 0 DA) (F0 m 40 ls []) := by
  obtain ⟨hx, hb, hml, hown, hts⟩ := C0.1
  have hK := C0.2.2.2.1
  intro A1 h _ _ _ hPD hS hl
  unfold f9_way_b40 at h
  refine lv_aload_n hx hb dX9_way_40 rfl (lv_at hl 0 rfl) ?_
  refine va_get (D := G.1) (ci := 9) (v := .ref (a0 1)) (C := RX9) (T := TX9) (N := 15) hx hb hts inlX9 hown hK hPD.1 0 rfl rfl 1 (by decide) (hts _ gw_354) (fun _ h9 => h9) rfl dX9_way_41 ?_
  refine lv_iload_n hx hb dX9_way_44 rfl (lv_at hl 2 rfl) ?_
  obtain ⟨q_1, hq_1, h⟩ := ob2 h
  refine kVV (As := [.int p2]) (rest := []) C0 (kt_X1_measure l G (a0 1) a1 f1 A1 p2 hq_1) gi_V_X9_230_X1_measure (n := 1) rfl (by decide +kernel) rfl ⟨rfl, rfl, Nat.le_of_ble_eq_true rfl, Nat.le_of_ble_eq_true rfl⟩ hPD hS 2 1 rfl rfl rfl [2, 3, 4, 5] [0, 1] [0, 1, 2, 3, 4, 5] (wN := (wX9 G h0 a0 wk f0 A0 ++ (wX1 G (a0 1) a1 f1 q_1))) rfl rfl rfl rfl rfl hl.1 (Nat.le_of_ble_eq_true rfl) dX9_way_45 (fun H locs hPD hS => ?_)
  refine lv_aload_n hx hb dX9_way_48 rfl (lv_at hl 0 rfl) ?_
  refine va_get (D := G.1) (ci := 9) (v := .ref (a0 1)) (C := RX9) (T := TX9) (N := 15) hx hb hts inlX9 hown hK hPD.1 0 rfl rfl 1 (by decide) (hts _ gw_354) (fun _ h9 => h9) rfl dX9_way_49 ?_
  refine lv_iload_n hx hb dX9_way_52 rfl (lv_at hl 1 rfl) ?_
  refine kVI (As := [.int p1]) (rest := []) C0 (kt_X1_stepsTo l G (a0 1) a1 f1 q_1 p1) gi_V_X9_233_X1_stepsTo (n := 1) rfl (by decide +kernel) rfl ⟨rfl, rfl, Nat.le_of_ble_eq_true rfl, Nat.le_of_ble_eq_true rfl⟩ hPD hS 2 1 rfl rfl rfl [2, 3, 4, 5] [0, 1] [0, 1, 2, 3, 4, 5] (wN := (wX9 G h0 a0 wk f0 A0 ++ (wX1 G (a0 1) a1 f1 q_1))) rfl rfl rfl rfl rfl hl.1 (Nat.le_of_ble_eq_true rfl) dX9_way_53 (fun H locs hPD hS => ?_)
  refine lv_istore (lv' := [(4, .int (f1_stepsTo f1 q_1 p1)), (0, .ref h0), (1, .int p1), (2, .int p2), (3, .int p3)]) hx hb dX9_way_56 hl (by decide) rfl (fun ls hl => ?_)
  refine lv_iload hx hb dX9_way_58 (lv_at hl 0 rfl) ?_
  refine lv_if_ge (tgt := 66) hx hb dX9_way_60 (by decide) (fun cc1 => ?_) (fun cc1 => ?_)
  · have h := (if_pos cc1).symm.trans h
    refine lv_iload_n hx hb dX9_way_66 rfl (lv_at hl 4 rfl) ?_
    refine lv_bipush (v := 100) hx hb dX9_way_67 (by decide) ?_
    refine lv_icmp_ne (tgt := 75) hx hb dX9_way_69 (by decide) (fun cc1 => ?_) (fun cc1 => ?_)
    · have h := (if_neg cc1).symm.trans h
      refine lv_iload_n hx hb dX9_way_75 rfl (lv_at hl 4 rfl) ?_
      refine lv_iload hx hb dX9_way_76 (lv_at hl 0 rfl) ?_
      refine lv_icmp_le (tgt := 86) hx hb dX9_way_78 (by decide) (fun cc1 => ?_) (fun cc1 => ?_)
      · have h := (if_pos cc1).symm.trans h
        refine lv_aload_n hx hb dX9_way_86 rfl (lv_at hl 1 rfl) ?_
        refine va_get (D := G.1) (ci := 9) (v := .ref (a0 1)) (C := RX9) (T := TX9) (N := 15) hx hb hts inlX9 hown hK hPD.1 0 rfl rfl 1 (by decide) (hts _ gw_354) (fun _ h9 => h9) rfl dX9_way_87 ?_
        refine lv_iload_n hx hb dX9_way_90 rfl (lv_at hl 2 rfl) ?_
        refine lv_iload_n hx hb dX9_way_91 rfl (lv_at hl 4 rfl) ?_
        obtain ⟨q_2, hq_2, h⟩ := ob2 h
        refine kVI (As := [.int p1, .int p3]) (rest := []) C0 (kt_X1_stepTowards l G (a0 1) a1 f1 q_1 p1 p3 hq_2) gi_V_X9_236_X1_stepTowards (n := 2) rfl (by decide +kernel) rfl ⟨rfl, rfl, Nat.le_of_ble_eq_true rfl, Nat.le_of_ble_eq_true rfl⟩ hPD hS 2 1 rfl rfl rfl [2, 3, 4, 5] [0, 1] [0, 1, 2, 3, 4, 5] (wN := (wX9 G h0 a0 wk f0 A0 ++ (wX1 G (a0 1) a1 f1 q_1))) rfl rfl rfl rfl rfl hl.1 (Nat.le_of_ble_eq_true rfl) dX9_way_92 (fun H locs hPD hS => ?_)
        obtain rfl := Option.some.inj h
        exact eI C0 hPD.1 hPD.2 hS rfl dX9_way_95
      · have h := (if_neg cc1).symm.trans h
        refine lv_bipush (v := (-4)) hx hb dX9_way_81 (by decide) ?_
        refine lv_goto (tgt := 95) hx hb dX9_way_83 (by decide) ?_
        obtain rfl := Option.some.inj h
        exact eI C0 hPD.1 hPD.2 hS rfl dX9_way_95
    · have h := (if_pos cc1).symm.trans h
      refine lv_iload hx hb dX9_way_72 (lv_at hl 0 rfl) ?_
      obtain rfl := Option.some.inj h
      exact eI C0 hPD.1 hPD.2 hS rfl dX9_way_74
  · have h := (if_neg cc1).symm.trans h
    refine lv_bipush (v := (-2)) hx hb dX9_way_63 (by decide) ?_
    obtain rfl := Option.some.inj h
    exact eI C0 hPD.1 hPD.2 hS rfl dX9_way_65
set_option maxRecDepth 100000 in
set_option maxHeartbeats 4000000 in
theorem kt_X9_way (l : Launch) (G : Gp) (h0 : Nat) (a0 : Nat → Nat) (wk : Option Nat) (a1 : Nat → Nat) (f0 : Nat → Int32) (A0 : Nat → Nat → Int32) (f1 : Nat → Int32) (A1 : Nat → Nat → Int32) (p1 : Int32) (p2 : Int32) (p3 : Int32) : ∀ {r : Int32 × (Nat → Nat → Int32)}, f9_way f0 A0 f1 A1 p1 p2 p3 = some r → CtrI l yX9_way cX9_way 5 (some .int) rmX9_way G [.ref h0, .int p1, .int p2, .int p3] (wX9 G h0 a0 wk f0 A0 ++ (wX1 G (a0 1) a1 f1 A1)) r.1 (wX9 G h0 a0 wk f0 A0 ++ (wX1 G (a0 1) a1 f1 r.2)) := by
  intro res h
  refine ctrI_of (cc := cX9_way) (maxL := 5) (ret := (some .int)) (by decide +kernel) rfl (Nat.le_of_ble_eq_true rfl) (fun p e s m below meth c DA C0 hP hD ls hl => ?_)
  have hPD : WD G DA (wX9 G h0 a0 wk f0 A0 ++ (wX1 G (a0 1) a1 f1 A1)) s.heap := ⟨hP, hD⟩
  have hS : va_S DA s.heap s.heap [] := va_S.rf
  have hl : lv_has ls 5 [(0, .ref h0), (1, .int p1), (2, .int p2), (3, .int p3)] := hl
  obtain ⟨hx, hb, hml, hown, hts⟩ := C0.1
  have hK := C0.2.2.2.1
  unfold f9_way at h
  refine lv_aload_n hx hb dX9_way_0 rfl (lv_at hl 0 rfl) ?_
  refine va_get (D := G.1) (ci := 9) (v := .ref (a0 1)) (C := RX9) (T := TX9) (N := 15) hx hb hts inlX9 hown hK hPD.1 0 rfl rfl 1 (by decide) (hts _ gw_354) (fun _ h9 => h9) rfl dX9_way_1 ?_
  refine lv_iload_n hx hb dX9_way_4 rfl (lv_at hl 1 rfl) ?_
  refine kVI (As := [.int p1]) (rest := []) C0 (kt_X1_isTold l G (a0 1) a1 f1 A1 p1) gi_V_X9_108_X1_isTold (n := 1) rfl (by decide +kernel) rfl ⟨rfl, rfl, Nat.le_of_ble_eq_true rfl, Nat.le_of_ble_eq_true rfl⟩ hPD hS 2 1 rfl rfl rfl [2, 3, 4, 5] [0, 1] [0, 1, 2, 3, 4, 5] (wN := (wX9 G h0 a0 wk f0 A0 ++ (wX1 G (a0 1) a1 f1 A1))) rfl rfl rfl rfl rfl hl.1 (Nat.le_of_ble_eq_true rfl) dX9_way_5 (fun H locs hPD hS => ?_)
  refine lv_if_eq (tgt := 38) hx hb dX9_way_8 (by decide) (fun cc1 => ?_) (fun cc1 => ?_)
  · have h := (if_pos cc1).symm.trans h
    refine lv_iconst (v := (-1)) hx hb dX9_way_38 (by decide) ?_
    obtain rfl := Option.some.inj h
    exact eI C0 hPD.1 hPD.2 hS rfl dX9_way_39
  · have h := (if_neg cc1).symm.trans h
    refine lv_aload_n hx hb dX9_way_11 rfl (lv_at hl 0 rfl) ?_
    refine va_get (D := G.1) (ci := 9) (v := .ref (a0 1)) (C := RX9) (T := TX9) (N := 15) hx hb hts inlX9 hown hK hPD.1 0 rfl rfl 1 (by decide) (hts _ gw_354) (fun _ h9 => h9) rfl dX9_way_12 ?_
    refine lv_iload_n hx hb dX9_way_15 rfl (lv_at hl 2 rfl) ?_
    refine kVI (As := [.int p2]) (rest := []) C0 (kt_X1_isTold l G (a0 1) a1 f1 A1 p2) gi_V_X9_108_X1_isTold (n := 1) rfl (by decide +kernel) rfl ⟨rfl, rfl, Nat.le_of_ble_eq_true rfl, Nat.le_of_ble_eq_true rfl⟩ hPD hS 2 1 rfl rfl rfl [2, 3, 4, 5] [0, 1] [0, 1, 2, 3, 4, 5] (wN := (wX9 G h0 a0 wk f0 A0 ++ (wX1 G (a0 1) a1 f1 A1))) rfl rfl rfl rfl rfl hl.1 (Nat.le_of_ble_eq_true rfl) dX9_way_16 (fun H locs hPD hS => ?_)
    refine lv_if_eq (tgt := 38) hx hb dX9_way_19 (by decide) (fun cc1 => ?_) (fun cc1 => ?_)
    · have h := (if_pos cc1).symm.trans h
      refine lv_iconst (v := (-1)) hx hb dX9_way_38 (by decide) ?_
      obtain rfl := Option.some.inj h
      exact eI C0 hPD.1 hPD.2 hS rfl dX9_way_39
    · have h := (if_neg cc1).symm.trans h
      refine lv_iload_n hx hb dX9_way_22 rfl (lv_at hl 3 rfl) ?_
      refine lv_bipush (v := 100) hx hb dX9_way_23 (by decide) ?_
      refine lv_icmp_eq (tgt := 40) hx hb dX9_way_25 (by decide) (fun cc1 => ?_) (fun cc1 => ?_)
      · have h := (if_pos cc1).symm.trans h
        exact ww_f9_way_b40 C0 A1 h _ _ _ hPD hS (lv_sub hl [0, 1, 2, 3] rfl)
      · have h := (if_neg cc1).symm.trans h
        refine lv_iload_n hx hb dX9_way_28 rfl (lv_at hl 3 rfl) ?_
        refine lv_iconst (v := 0) hx hb dX9_way_29 (by decide) ?_
        refine lv_bipush (v := 15) hx hb dX9_way_30 (by decide) ?_
        refine kSI (As := [.int p3, .int 0, .int 15]) (rest := []) C0 (kt_X9_within l G  p3 0 15) gi_S_X9_90_X9_within (n := 3) rfl (by decide +kernel) ⟨rfl, rfl, Nat.le_of_ble_eq_true rfl, Nat.le_of_ble_eq_true rfl⟩ hPD hS [] [0, 1, 2, 3, 4, 5] [0, 1, 2, 3, 4, 5] (wN := (wX9 G h0 a0 wk f0 A0 ++ (wX1 G (a0 1) a1 f1 A1))) rfl rfl rfl rfl rfl hl.1 (Nat.le_of_ble_eq_true rfl) dX9_way_32 (fun H locs hPD hS => ?_)
        refine lv_if_ne (tgt := 40) hx hb dX9_way_35 (by decide) (fun cc1 => ?_) (fun cc1 => ?_)
        · have h := (if_neg cc1).symm.trans h
          exact ww_f9_way_b40 C0 A1 h _ _ _ hPD hS (lv_sub hl [0, 1, 2, 3] rfl)
        · have h := (if_pos cc1).symm.trans h
          refine lv_iconst (v := (-1)) hx hb dX9_way_38 (by decide) ?_
          obtain rfl := Option.some.inj h
          exact eI C0 hPD.1 hPD.2 hS rfl dX9_way_39
abbrev rmX9_nearest : Room := { frames := 4, cells := 0, slots := 0, locals := 91 }
set_option maxRecDepth 100000 in
set_option maxHeartbeats 4000000 in
theorem ww_f9_nearest_b82  (C0 : Cx cX9_nearest 7 (some .int) RX9 p s m args meth c G DA) {h0 : Nat} {a0 : Nat → Nat} {wk : Option Nat} {a1 : Nat → Nat} {a2 : Nat → Nat} {f0 : Nat → Int32} {A0 : Nat → Nat → Int32} {f1 : Nat → Int32} {f2 : Nat → Int32} {A2 : Nat → Nat → Int32} {p1 : Int32} {p2 : Int32}  {k40 : (Nat → Nat → Int32) → Int32 → Int32 → Int32 → Option (Int32 × (Nat → Nat → Int32))} {res : Int32 × (Nat → Nat → Int32)} (hk40 : ∀ (A1 : Nat → Nat → Int32) (l3 : Int32) (l4 : Int32) (l5 : Int32), k40 A1 l3 l4 l5 = some res → ∀ (H : Heap) (locs : List Loc) (ls : Array Slot), WD G DA (wX9 G h0 a0 wk f0 A0 ++ (wX1 G (a0 1) a1 f1 A1 ++ (wX6 G (a0 2) a2 f2 A2))) H → va_S DA s.heap H locs → lv_has ls 7 [(0, .ref h0), (1, .int p1), (2, .int p2), (3, .int l3), (4, .int l4), (5, .int l5)] → W p l e rmX9_nearest s m args below meth c H locs 0 0 (MQ below (QI G DA res.1 (wX9 G h0 a0 wk f0 A0 ++ (wX1 G (a0 1) a1 f1 res.2 ++ (wX6 G (a0 2) a2 f2 A2)))) args s 0 0 DA) (F0 m 40 ls [])) : ∀ (A1 : Nat → Nat → Int32) (l3 : Int32) (l4 : Int32) (l5 : Int32) (s0 : Int32), f9_nearest_b82 f0 A0 f1 f2 A2 p1 p2 k40 A1 l3 l4 l5 s0 = some res → ∀ (H : Heap) (locs : List Loc) (ls : Array Slot), WD G DA (wX9 G h0 a0 wk f0 A0 ++ (wX1 G (a0 1) a1 f1 A1 ++ (wX6 G (a0 2) a2 f2 A2))) H → va_S DA s.heap H locs → lv_has ls 7 [(0, .ref h0), (1, .int p1), (2, .int p2), (3, .int l3), (4, .int l4), (5, .int l5)] → W p l e rmX9_nearest s m args below meth c H locs 0 0 (MQ below (QI G DA res.1 (wX9 G h0 a0 wk f0 A0 ++ (wX1 G (a0 1) a1 f1 res.2 ++ (wX6 G (a0 2) a2 f2 A2)))) args s 0 0 DA) (F0 m 82 ls [.int s0]) := by
  obtain ⟨hx, hb, hml, hown, hts⟩ := C0.1
  have hK := C0.2.2.2.1
  intro A1 l3 l4 l5 s0 h _ _ _ hPD hS hl
  unfold f9_nearest_b82 at h
  refine lv_istore (lv' := [(6, .int s0), (0, .ref h0), (1, .int p1), (2, .int p2), (3, .int l3), (4, .int l4), (5, .int l5)]) hx hb dX9_nearest_82 hl (by decide) rfl (fun ls hl => ?_)
  refine lv_iload hx hb dX9_nearest_84 (lv_at hl 0 rfl) ?_
  refine lv_if_lt (tgt := 108) hx hb dX9_nearest_86 (by decide) (fun cc1 => ?_) (fun cc1 => ?_)
  · have h := (if_pos cc1).symm.trans h
    refine lv_iinc (v := l5 + 1) (lv' := [(5, .int (l5 + 1)), (6, .int s0), (0, .ref h0), (1, .int p1), (2, .int p2), (3, .int l3), (4, .int l4)]) hx hb dX9_nearest_108 hl (k := 6) rfl rfl (by decide) rfl (fun ls hl => ?_)
    refine lv_goto (tgt := 40) hx hb dX9_nearest_111 (by decide) ?_
    exact hk40 A1 l3 l4 (l5 + 1) h _ _ _ hPD hS (lv_sub hl [2, 3, 4, 5, 6, 0] rfl)
  · have h := (if_neg cc1).symm.trans h
    refine lv_iload hx hb dX9_nearest_89 (lv_at hl 5 rfl) ?_
    refine lv_if_lt (tgt := 101) hx hb dX9_nearest_91 (by decide) (fun cc1 => ?_) (fun cc1 => ?_)
    · have h := (if_pos cc1).symm.trans h
      refine lv_iload hx hb dX9_nearest_101 (lv_at hl 6 rfl) ?_
      refine lv_istore_n (lv' := [(3, .int l5), (6, .int s0), (0, .ref h0), (1, .int p1), (2, .int p2), (4, .int l4), (5, .int l5)]) hx hb dX9_nearest_103 rfl hl (by decide) rfl (fun ls hl => ?_)
      refine lv_iload hx hb dX9_nearest_104 (lv_at hl 1 rfl) ?_
      refine lv_istore (lv' := [(4, .int s0), (3, .int l5), (6, .int s0), (0, .ref h0), (1, .int p1), (2, .int p2), (5, .int l5)]) hx hb dX9_nearest_106 hl (by decide) rfl (fun ls hl => ?_)
      refine lv_iinc (v := l5 + 1) (lv' := [(5, .int (l5 + 1)), (4, .int s0), (3, .int l5), (6, .int s0), (0, .ref h0), (1, .int p1), (2, .int p2)]) hx hb dX9_nearest_108 hl (k := 6) rfl rfl (by decide) rfl (fun ls hl => ?_)
      refine lv_goto (tgt := 40) hx hb dX9_nearest_111 (by decide) ?_
      exact hk40 A1 l5 s0 (l5 + 1) h _ _ _ hPD hS (lv_sub hl [4, 5, 6, 2, 1, 0] rfl)
    · have h := (if_neg cc1).symm.trans h
      refine lv_iload hx hb dX9_nearest_94 (lv_at hl 0 rfl) ?_
      refine lv_iload hx hb dX9_nearest_96 (lv_at hl 5 rfl) ?_
      refine lv_icmp_ge (tgt := 108) hx hb dX9_nearest_98 (by decide) (fun cc1 => ?_) (fun cc1 => ?_)
      · have h := (if_pos cc1).symm.trans h
        refine lv_iinc (v := l5 + 1) (lv' := [(5, .int (l5 + 1)), (6, .int s0), (0, .ref h0), (1, .int p1), (2, .int p2), (3, .int l3), (4, .int l4)]) hx hb dX9_nearest_108 hl (k := 6) rfl rfl (by decide) rfl (fun ls hl => ?_)
        refine lv_goto (tgt := 40) hx hb dX9_nearest_111 (by decide) ?_
        exact hk40 A1 l3 l4 (l5 + 1) h _ _ _ hPD hS (lv_sub hl [2, 3, 4, 5, 6, 0] rfl)
      · have h := (if_neg cc1).symm.trans h
        refine lv_iload hx hb dX9_nearest_101 (lv_at hl 6 rfl) ?_
        refine lv_istore_n (lv' := [(3, .int l5), (6, .int s0), (0, .ref h0), (1, .int p1), (2, .int p2), (4, .int l4), (5, .int l5)]) hx hb dX9_nearest_103 rfl hl (by decide) rfl (fun ls hl => ?_)
        refine lv_iload hx hb dX9_nearest_104 (lv_at hl 1 rfl) ?_
        refine lv_istore (lv' := [(4, .int s0), (3, .int l5), (6, .int s0), (0, .ref h0), (1, .int p1), (2, .int p2), (5, .int l5)]) hx hb dX9_nearest_106 hl (by decide) rfl (fun ls hl => ?_)
        refine lv_iinc (v := l5 + 1) (lv' := [(5, .int (l5 + 1)), (4, .int s0), (3, .int l5), (6, .int s0), (0, .ref h0), (1, .int p1), (2, .int p2)]) hx hb dX9_nearest_108 hl (k := 6) rfl rfl (by decide) rfl (fun ls hl => ?_)
        refine lv_goto (tgt := 40) hx hb dX9_nearest_111 (by decide) ?_
        exact hk40 A1 l5 s0 (l5 + 1) h _ _ _ hPD hS (lv_sub hl [4, 5, 6, 2, 1, 0] rfl)
set_option maxRecDepth 100000 in
set_option maxHeartbeats 4000000 in
theorem ww_f9_nearest_b40  (C0 : Cx cX9_nearest 7 (some .int) RX9 p s m args meth c G DA) {h0 : Nat} {a0 : Nat → Nat} {wk : Option Nat} {a1 : Nat → Nat} {a2 : Nat → Nat} {f0 : Nat → Int32} {A0 : Nat → Nat → Int32} {f1 : Nat → Int32} {f2 : Nat → Int32} {A2 : Nat → Nat → Int32} {p1 : Int32} {p2 : Int32}  {k40 : (Nat → Nat → Int32) → Int32 → Int32 → Int32 → Option (Int32 × (Nat → Nat → Int32))} {res : Int32 × (Nat → Nat → Int32)}  (hk40 : ∀ (A1 : Nat → Nat → Int32) (l3 : Int32) (l4 : Int32) (l5 : Int32), k40 A1 l3 l4 l5 = some res → ∀ (H : Heap) (locs : List Loc) (ls : Array Slot), WD G DA (wX9 G h0 a0 wk f0 A0 ++ (wX1 G (a0 1) a1 f1 A1 ++ (wX6 G (a0 2) a2 f2 A2))) H → va_S DA s.heap H locs → lv_has ls 7 [(0, .ref h0), (1, .int p1), (2, .int p2), (3, .int l3), (4, .int l4), (5, .int l5)] → W p l e rmX9_nearest s m args below meth c H locs 0 0 (MQ below (QI G DA res.1 (wX9 G h0 a0 wk f0 A0 ++ (wX1 G (a0 1) a1 f1 res.2 ++ (wX6 G (a0 2) a2 f2 A2)))) args s 0 0 DA) (F0 m 40 ls [])) : ∀ (A1 : Nat → Nat → Int32) (l3 : Int32) (l4 : Int32) (l5 : Int32), f9_nearest_b40 f0 A0 f1 f2 A2 p1 p2  k40 A1 l3 l4 l5 = some res → ∀ (H : Heap) (locs : List Loc) (ls : Array Slot), WD G DA (wX9 G h0 a0 wk f0 A0 ++ (wX1 G (a0 1) a1 f1 A1 ++ (wX6 G (a0 2) a2 f2 A2))) H → va_S DA s.heap H locs → lv_has ls 7 [(0, .ref h0), (1, .int p1), (2, .int p2), (3, .int l3), (4, .int l4), (5, .int l5)] → W p l e rmX9_nearest s m args below meth c H locs 0 0 (MQ below (QI G DA res.1 (wX9 G h0 a0 wk f0 A0 ++ (wX1 G (a0 1) a1 f1 res.2 ++ (wX6 G (a0 2) a2 f2 A2)))) args s 0 0 DA) (F0 m 40 ls []) := by
  obtain ⟨hx, hb, hml, hown, hts⟩ := C0.1
  have hK := C0.2.2.2.1
  intro A1 l3 l4 l5 h _ _ _ hPD hS hl
  unfold f9_nearest_b40 at h
  refine lv_iload hx hb dX9_nearest_40 (lv_at hl 5 rfl) ?_
  refine lv_bipush (v := 8) hx hb dX9_nearest_42 (by decide) ?_
  refine lv_icmp_ge (tgt := 114) hx hb dX9_nearest_44 (by decide) (fun cc1 => ?_) (fun cc1 => ?_)
  · have h := (if_pos cc1).symm.trans h
    refine lv_iload_n hx hb dX9_nearest_114 rfl (lv_at hl 2 rfl) ?_
    refine lv_if_ne (tgt := 122) hx hb dX9_nearest_115 (by decide) (fun cc1 => ?_) (fun cc1 => ?_)
    · have h := (if_neg cc1).symm.trans h
      refine lv_iload hx hb dX9_nearest_122 (lv_at hl 4 rfl) ?_
      obtain rfl := Option.some.inj h
      exact eI C0 hPD.1 hPD.2 hS rfl dX9_nearest_124
    · have h := (if_pos cc1).symm.trans h
      refine lv_iload_n hx hb dX9_nearest_118 rfl (lv_at hl 3 rfl) ?_
      refine lv_goto (tgt := 124) hx hb dX9_nearest_119 (by decide) ?_
      obtain rfl := Option.some.inj h
      exact eI C0 hPD.1 hPD.2 hS rfl dX9_nearest_124
  · have h := (if_neg cc1).symm.trans h
    refine lv_aload_n hx hb dX9_nearest_47 rfl (lv_at hl 0 rfl) ?_
    refine va_get (D := G.1) (ci := 9) (v := .ref (a0 2)) (C := RX9) (T := TX9) (N := 15) hx hb hts inlX9 hown hK hPD.1 0 rfl rfl 2 (by decide) (hts _ gw_356) (fun _ h9 => h9) rfl dX9_nearest_48 ?_
    refine lv_iload hx hb dX9_nearest_51 (lv_at hl 5 rfl) ?_
    refine kVI (As := [.int l5]) (rest := []) C0 (kt_X6_isTold l G (a0 2) a2 f2 A2 l5) gi_V_X9_195_X6_isTold (n := 1) rfl (by decide +kernel) rfl ⟨rfl, rfl, Nat.le_of_ble_eq_true rfl, Nat.le_of_ble_eq_true rfl⟩ hPD hS 6 6 rfl rfl rfl [6, 7, 8, 9, 10, 11] [0, 1, 2, 3, 4, 5] [0, 1, 2, 3, 4, 5, 6, 7, 8, 9, 10, 11] (wN := (wX9 G h0 a0 wk f0 A0 ++ (wX1 G (a0 1) a1 f1 A1 ++ (wX6 G (a0 2) a2 f2 A2)))) rfl rfl rfl rfl rfl hl.1 (Nat.le_of_ble_eq_true rfl) dX9_nearest_53 (fun H locs hPD hS => ?_)
    refine lv_if_eq (tgt := 81) hx hb dX9_nearest_56 (by decide) (fun cc1 => ?_) (fun cc1 => ?_)
    · have h := (if_pos cc1).symm.trans h
      refine lv_iconst (v := (-1)) hx hb dX9_nearest_81 (by decide) ?_
      exact ww_f9_nearest_b82 C0 hk40 A1 l3 l4 l5 (-1) h _ _ _ hPD hS (lv_sub hl [0, 1, 2, 3, 4, 5] rfl)
    · have h := (if_neg cc1).symm.trans h
      refine lv_aload_n hx hb dX9_nearest_59 rfl (lv_at hl 0 rfl) ?_
      refine va_get (D := G.1) (ci := 9) (v := .ref (a0 1)) (C := RX9) (T := TX9) (N := 15) hx hb hts inlX9 hown hK hPD.1 0 rfl rfl 1 (by decide) (hts _ gw_354) (fun _ h9 => h9) rfl dX9_nearest_60 ?_
      refine lv_aload_n hx hb dX9_nearest_63 rfl (lv_at hl 0 rfl) ?_
      refine va_get (D := G.1) (ci := 9) (v := .ref (a0 2)) (C := RX9) (T := TX9) (N := 15) hx hb hts inlX9 hown hK hPD.1 0 rfl rfl 2 (by decide) (hts _ gw_356) (fun _ h9 => h9) rfl dX9_nearest_64 ?_
      refine va_get (D := G.1) (ci := 6) (v := .ref (a2 3)) (C := RX6) (T := TX6) (N := 10) hx hb hts inlX6 hown hK hPD.1 6 rfl rfl 3 (by decide) (hts _ gw_362) (fun _ h9 => h9) rfl dX9_nearest_67 ?_
      refine lv_iload hx hb dX9_nearest_70 (lv_at hl 5 rfl) ?_
      refine kSI (As := [.ref (a2 3), .int l5]) (rest := [.ref (a0 1)]) C0 (kt_X9_at l G (a2 3) 8 (A2 3) l5 (by decide)) gi_S_X9_188_X9_at (n := 2) rfl (by decide +kernel) ⟨rfl, rfl, Nat.le_of_ble_eq_true rfl, Nat.le_of_ble_eq_true rfl⟩ hPD hS [10] [0, 1, 2, 3, 4, 5, 6, 7, 8, 9, 11] [0, 1, 2, 3, 4, 5, 6, 7, 8, 9, 11, 10] (wN := (wX9 G h0 a0 wk f0 A0 ++ (wX1 G (a0 1) a1 f1 A1 ++ (wX6 G (a0 2) a2 f2 A2)))) rfl rfl rfl rfl rfl hl.1 (Nat.le_of_ble_eq_true rfl) dX9_nearest_72 (fun H locs hPD hS => ?_)
      refine kVI (As := [.int (f9_at 8 (A2 3) l5)]) (rest := []) C0 (kt_X1_stepsTo l G (a0 1) a1 f1 A1 (f9_at 8 (A2 3) l5)) gi_V_X9_233_X1_stepsTo (n := 1) rfl (by decide +kernel) rfl ⟨rfl, rfl, Nat.le_of_ble_eq_true rfl, Nat.le_of_ble_eq_true rfl⟩ hPD hS 2 1 rfl rfl rfl [2, 3, 4, 5] [0, 1, 6, 7, 8, 9, 10, 11] [0, 1, 8, 9, 10, 11, 2, 3, 4, 5, 6, 7] (wN := (wX9 G h0 a0 wk f0 A0 ++ (wX1 G (a0 1) a1 f1 A1 ++ (wX6 G (a0 2) a2 f2 A2)))) rfl rfl rfl rfl rfl hl.1 (Nat.le_of_ble_eq_true rfl) dX9_nearest_75 (fun H locs hPD hS => ?_)
      refine lv_goto (tgt := 82) hx hb dX9_nearest_78 (by decide) ?_
      exact ww_f9_nearest_b82 C0 hk40 A1 l3 l4 l5 (f1_stepsTo f1 A1 (f9_at 8 (A2 3) l5)) h _ _ _ hPD hS (lv_sub hl [0, 1, 2, 3, 4, 5] rfl)
set_option maxRecDepth 100000 in
set_option maxHeartbeats 4000000 in
theorem ww_f9_nearest_l40  (C0 : Cx cX9_nearest 7 (some .int) RX9 p s m args meth c G DA) {h0 : Nat} {a0 : Nat → Nat} {wk : Option Nat} {a1 : Nat → Nat} {a2 : Nat → Nat} {f0 : Nat → Int32} {A0 : Nat → Nat → Int32} {f1 : Nat → Int32} {f2 : Nat → Int32} {A2 : Nat → Nat → Int32} {p1 : Int32} {p2 : Int32}   {res : Int32 × (Nat → Nat → Int32)}  : ∀ (n : Nat) (A1 : Nat → Nat → Int32) (l3 : Int32) (l4 : Int32) (l5 : Int32), f9_nearest_l40 f0 A0 f1 f2 A2 p1 p2  n A1 l3 l4 l5 = some res → ∀ (H : Heap) (locs : List Loc) (ls : Array Slot), WD G DA (wX9 G h0 a0 wk f0 A0 ++ (wX1 G (a0 1) a1 f1 A1 ++ (wX6 G (a0 2) a2 f2 A2))) H → va_S DA s.heap H locs → lv_has ls 7 [(0, .ref h0), (1, .int p1), (2, .int p2), (3, .int l3), (4, .int l4), (5, .int l5)] → W p l e rmX9_nearest s m args below meth c H locs 0 0 (MQ below (QI G DA res.1 (wX9 G h0 a0 wk f0 A0 ++ (wX1 G (a0 1) a1 f1 res.2 ++ (wX6 G (a0 2) a2 f2 A2)))) args s 0 0 DA) (F0 m 40 ls []) := by
  intro n
  induction n with
  | zero => intro A1 l3 l4 l5 h; cases h
  | succ n ih => intro A1 l3 l4 l5 h; exact ww_f9_nearest_b40 C0  ih A1 l3 l4 l5 h
set_option maxRecDepth 100000 in
set_option maxHeartbeats 4000000 in
theorem kt_X9_nearest (l : Launch) (G : Gp) (h0 : Nat) (a0 : Nat → Nat) (wk : Option Nat) (a1 : Nat → Nat) (a2 : Nat → Nat) (f0 : Nat → Int32) (A0 : Nat → Nat → Int32) (f1 : Nat → Int32) (A1 : Nat → Nat → Int32) (f2 : Nat → Int32) (A2 : Nat → Nat → Int32) (p1 : Int32) (p2 : Int32) : ∀ {r : Int32 × (Nat → Nat → Int32)}, f9_nearest f0 A0 f1 A1 f2 A2 p1 p2 = some r → CtrI l yX9_nearest cX9_nearest 7 (some .int) rmX9_nearest G [.ref h0, .int p1, .int p2] (wX9 G h0 a0 wk f0 A0 ++ (wX1 G (a0 1) a1 f1 A1 ++ (wX6 G (a0 2) a2 f2 A2))) r.1 (wX9 G h0 a0 wk f0 A0 ++ (wX1 G (a0 1) a1 f1 r.2 ++ (wX6 G (a0 2) a2 f2 A2))) := by
  intro res h
  refine ctrI_of (cc := cX9_nearest) (maxL := 7) (ret := (some .int)) (by decide +kernel) rfl (Nat.le_of_ble_eq_true rfl) (fun p e s m below meth c DA C0 hP hD ls hl => ?_)
  have hPD : WD G DA (wX9 G h0 a0 wk f0 A0 ++ (wX1 G (a0 1) a1 f1 A1 ++ (wX6 G (a0 2) a2 f2 A2))) s.heap := ⟨hP, hD⟩
  have hS : va_S DA s.heap s.heap [] := va_S.rf
  have hl : lv_has ls 7 [(0, .ref h0), (1, .int p1), (2, .int p2)] := hl
  obtain ⟨hx, hb, hml, hown, hts⟩ := C0.1
  have hK := C0.2.2.2.1
  unfold f9_nearest at h
  refine lv_aload_n hx hb dX9_nearest_0 rfl (lv_at hl 0 rfl) ?_
  refine va_get (D := G.1) (ci := 9) (v := .ref (a0 1)) (C := RX9) (T := TX9) (N := 15) hx hb hts inlX9 hown hK hPD.1 0 rfl rfl 1 (by decide) (hts _ gw_354) (fun _ h9 => h9) rfl dX9_nearest_1 ?_
  refine lv_iload_n hx hb dX9_nearest_4 rfl (lv_at hl 1 rfl) ?_
  refine kVI (As := [.int p1]) (rest := []) C0 (kt_X1_isTold l G (a0 1) a1 f1 A1 p1) gi_V_X9_108_X1_isTold (n := 1) rfl (by decide +kernel) rfl ⟨rfl, rfl, Nat.le_of_ble_eq_true rfl, Nat.le_of_ble_eq_true rfl⟩ hPD hS 2 1 rfl rfl rfl [2, 3, 4, 5] [0, 1, 6, 7, 8, 9, 10, 11] [0, 1, 8, 9, 10, 11, 2, 3, 4, 5, 6, 7] (wN := (wX9 G h0 a0 wk f0 A0 ++ (wX1 G (a0 1) a1 f1 A1 ++ (wX6 G (a0 2) a2 f2 A2)))) rfl rfl rfl rfl rfl hl.1 (Nat.le_of_ble_eq_true rfl) dX9_nearest_5 (fun H locs hPD hS => ?_)
  refine lv_if_eq (tgt := 20) hx hb dX9_nearest_8 (by decide) (fun cc1 => ?_) (fun cc1 => ?_)
  · have h := (if_pos cc1).symm.trans h
    refine lv_iconst (v := (-1)) hx hb dX9_nearest_20 (by decide) ?_
    obtain rfl := Option.some.inj h
    exact eI C0 hPD.1 hPD.2 hS rfl dX9_nearest_21
  · have h := (if_neg cc1).symm.trans h
    refine lv_iload_n hx hb dX9_nearest_11 rfl (lv_at hl 2 rfl) ?_
    refine lv_iconst (v := 0) hx hb dX9_nearest_12 (by decide) ?_
    refine lv_iconst (v := 1) hx hb dX9_nearest_13 (by decide) ?_
    refine kSI (As := [.int p2, .int 0, .int 1]) (rest := []) C0 (kt_X9_within l G  p2 0 1) gi_S_X9_90_X9_within (n := 3) rfl (by decide +kernel) ⟨rfl, rfl, Nat.le_of_ble_eq_true rfl, Nat.le_of_ble_eq_true rfl⟩ hPD hS [] [0, 1, 2, 3, 4, 5, 6, 7, 8, 9, 10, 11] [0, 1, 2, 3, 4, 5, 6, 7, 8, 9, 10, 11] (wN := (wX9 G h0 a0 wk f0 A0 ++ (wX1 G (a0 1) a1 f1 A1 ++ (wX6 G (a0 2) a2 f2 A2)))) rfl rfl rfl rfl rfl hl.1 (Nat.le_of_ble_eq_true rfl) dX9_nearest_14 (fun H locs hPD hS => ?_)
    refine lv_if_ne (tgt := 22) hx hb dX9_nearest_17 (by decide) (fun cc1 => ?_) (fun cc1 => ?_)
    · have h := (if_neg cc1).symm.trans h
      refine lv_aload_n hx hb dX9_nearest_22 rfl (lv_at hl 0 rfl) ?_
      refine va_get (D := G.1) (ci := 9) (v := .ref (a0 1)) (C := RX9) (T := TX9) (N := 15) hx hb hts inlX9 hown hK hPD.1 0 rfl rfl 1 (by decide) (hts _ gw_354) (fun _ h9 => h9) rfl dX9_nearest_23 ?_
      refine lv_iload_n hx hb dX9_nearest_26 rfl (lv_at hl 1 rfl) ?_
      obtain ⟨q_1, hq_1, h⟩ := ob2 h
      refine kVV (As := [.int p1]) (rest := []) C0 (kt_X1_measure l G (a0 1) a1 f1 A1 p1 hq_1) gi_V_X9_230_X1_measure (n := 1) rfl (by decide +kernel) rfl ⟨rfl, rfl, Nat.le_of_ble_eq_true rfl, Nat.le_of_ble_eq_true rfl⟩ hPD hS 2 1 rfl rfl rfl [2, 3, 4, 5] [0, 1, 6, 7, 8, 9, 10, 11] [0, 1, 8, 9, 10, 11, 2, 3, 4, 5, 6, 7] (wN := (wX9 G h0 a0 wk f0 A0 ++ (wX1 G (a0 1) a1 f1 q_1 ++ (wX6 G (a0 2) a2 f2 A2)))) rfl rfl rfl rfl rfl hl.1 (Nat.le_of_ble_eq_true rfl) dX9_nearest_27 (fun H locs hPD hS => ?_)
      refine lv_bipush (v := (-2)) hx hb dX9_nearest_30 (by decide) ?_
      refine lv_istore_n (lv' := [(3, .int (-2)), (0, .ref h0), (1, .int p1), (2, .int p2)]) hx hb dX9_nearest_32 rfl hl (by decide) rfl (fun ls hl => ?_)
      refine lv_bipush (v := (-2)) hx hb dX9_nearest_33 (by decide) ?_
      refine lv_istore (lv' := [(4, .int (-2)), (3, .int (-2)), (0, .ref h0), (1, .int p1), (2, .int p2)]) hx hb dX9_nearest_35 hl (by decide) rfl (fun ls hl => ?_)
      refine lv_iconst (v := 0) hx hb dX9_nearest_37 (by decide) ?_
      refine lv_istore (lv' := [(5, .int 0), (4, .int (-2)), (3, .int (-2)), (0, .ref h0), (1, .int p1), (2, .int p2)]) hx hb dX9_nearest_38 hl (by decide) rfl (fun ls hl => ?_)
      exact ww_f9_nearest_l40 C0 NF q_1 (-2) (-2) 0 h _ _ _ hPD hS (lv_sub hl [3, 4, 5, 2, 1, 0] rfl)
    · have h := (if_pos cc1).symm.trans h
      refine lv_iconst (v := (-1)) hx hb dX9_nearest_20 (by decide) ?_
      obtain rfl := Option.some.inj h
      exact eI C0 hPD.1 hPD.2 hS rfl dX9_nearest_21
abbrev rmX9_posts : Room := { frames := 69, cells := 0, slots := 0, locals := 1841 }
set_option maxRecDepth 100000 in
set_option maxHeartbeats 4000000 in
theorem kt_X9_posts (l : Launch) (G : Gp) (h0 : Nat) (a0 : Nat → Nat) (wk : Option Nat) (a1 : Nat → Nat) (f0 : Nat → Int32) (A0 : Nat → Nat → Int32) (f1 : Nat → Int32) (A1 : Nat → Nat → Int32) (p1 : Int32) : ∀ {r : Int32}, f9_posts f0 A0 f1 A1 p1 = some r → CtrI l yX9_posts cX9_posts 3 (some .int) rmX9_posts G [.ref h0, .int p1] (wX9 G h0 a0 wk f0 A0 ++ (wX1 G (a0 1) a1 f1 A1)) r (wX9 G h0 a0 wk f0 A0 ++ (wX1 G (a0 1) a1 f1 A1)) := by
  intro res h
  refine ctrI_of (cc := cX9_posts) (maxL := 3) (ret := (some .int)) (by decide +kernel) rfl (Nat.le_of_ble_eq_true rfl) (fun p e s m below meth c DA C0 hP hD ls hl => ?_)
  have hPD : WD G DA (wX9 G h0 a0 wk f0 A0 ++ (wX1 G (a0 1) a1 f1 A1)) s.heap := ⟨hP, hD⟩
  have hS : va_S DA s.heap s.heap [] := va_S.rf
  have hl : lv_has ls 3 [(0, .ref h0), (1, .int p1)] := hl
  obtain ⟨hx, hb, hml, hown, hts⟩ := C0.1
  have hK := C0.2.2.2.1
  unfold f9_posts at h
  refine lv_iload_n hx hb dX9_posts_0 rfl (lv_at hl 1 rfl) ?_
  refine lv_iconst (v := 0) hx hb dX9_posts_1 (by decide) ?_
  refine lv_iconst (v := 1) hx hb dX9_posts_2 (by decide) ?_
  refine kSI (As := [.int p1, .int 0, .int 1]) (rest := []) C0 (kt_X9_within l G  p1 0 1) gi_S_X9_90_X9_within (n := 3) rfl (by decide +kernel) ⟨rfl, rfl, Nat.le_of_ble_eq_true rfl, Nat.le_of_ble_eq_true rfl⟩ hPD hS [] [0, 1, 2, 3, 4, 5] [0, 1, 2, 3, 4, 5] (wN := (wX9 G h0 a0 wk f0 A0 ++ (wX1 G (a0 1) a1 f1 A1))) rfl rfl rfl rfl rfl hl.1 (Nat.le_of_ble_eq_true rfl) dX9_posts_3 (fun H locs hPD hS => ?_)
  refine lv_if_ne (tgt := 11) hx hb dX9_posts_6 (by decide) (fun cc1 => ?_) (fun cc1 => ?_)
  · have h := (if_neg cc1).symm.trans h
    refine lv_aload_n hx hb dX9_posts_11 rfl (lv_at hl 0 rfl) ?_
    refine va_get (D := G.1) (ci := 9) (v := .ref (a0 1)) (C := RX9) (T := TX9) (N := 15) hx hb hts inlX9 hown hK hPD.1 0 rfl rfl 1 (by decide) (hts _ gw_354) (fun _ h9 => h9) rfl dX9_posts_12 ?_
    obtain ⟨q_1, hq_1, h⟩ := ob2 h
    refine kVI (As := []) (rest := []) C0 (kt_X1_fewestPosts l G (a0 1) a1 f1 A1 hq_1) gi_V_X9_239_X1_fewestPosts (n := 0) rfl (by decide +kernel) rfl ⟨rfl, rfl, Nat.le_of_ble_eq_true rfl, Nat.le_of_ble_eq_true rfl⟩ hPD hS 2 1 rfl rfl rfl [2, 3, 4, 5] [0, 1] [0, 1, 2, 3, 4, 5] (wN := (wX9 G h0 a0 wk f0 A0 ++ (wX1 G (a0 1) a1 f1 A1))) rfl rfl rfl rfl rfl hl.1 (Nat.le_of_ble_eq_true rfl) dX9_posts_15 (fun H locs hPD hS => ?_)
    refine lv_istore_n (lv' := [(2, .int q_1), (0, .ref h0), (1, .int p1)]) hx hb dX9_posts_18 rfl hl (by decide) rfl (fun ls hl => ?_)
    refine lv_iload_n hx hb dX9_posts_19 rfl (lv_at hl 2 rfl) ?_
    refine lv_if_ne (tgt := 30) hx hb dX9_posts_20 (by decide) (fun cc1 => ?_) (fun cc1 => ?_)
    · have h := (if_neg cc1).symm.trans h
      refine lv_iload_n hx hb dX9_posts_30 rfl (lv_at hl 0 rfl) ?_
      obtain rfl := Option.some.inj h
      exact eI C0 hPD.1 hPD.2 hS rfl dX9_posts_31
    · have h := (if_pos cc1).symm.trans h
      refine lv_iload_n hx hb dX9_posts_23 rfl (lv_at hl 0 rfl) ?_
      refine kSI (As := [.int q_1]) (rest := []) C0 (kt_J6_bitCount_0f7a4 l G  q_1) gi_S_X9_242_J6_bitCount_0f7a4 (n := 1) rfl (by decide +kernel) ⟨rfl, rfl, Nat.le_of_ble_eq_true rfl, Nat.le_of_ble_eq_true rfl⟩ hPD hS [] [0, 1, 2, 3, 4, 5] [0, 1, 2, 3, 4, 5] (wN := (wX9 G h0 a0 wk f0 A0 ++ (wX1 G (a0 1) a1 f1 A1))) rfl rfl rfl rfl rfl hl.1 (Nat.le_of_ble_eq_true rfl) dX9_posts_24 (fun H locs hPD hS => ?_)
      refine lv_goto (tgt := 31) hx hb dX9_posts_27 (by decide) ?_
      obtain rfl := Option.some.inj h
      exact eI C0 hPD.1 hPD.2 hS rfl dX9_posts_31
  · have h := (if_pos cc1).symm.trans h
    refine lv_iconst (v := (-1)) hx hb dX9_posts_9 (by decide) ?_
    obtain rfl := Option.some.inj h
    exact eI C0 hPD.1 hPD.2 hS rfl dX9_posts_10
abbrev rmX9_round : Room := { frames := 5, cells := 0, slots := 0, locals := 122 }
set_option maxRecDepth 100000 in
set_option maxHeartbeats 4000000 in
theorem ww_f9_round_b50  (C0 : Cx cX9_round 5 (some .int) RX9 p s m args meth c G DA) {h0 : Nat} {a0 : Nat → Nat} {a1 : Nat → Nat} {a2 : Nat → Nat} {a3 : Nat → Nat} {f0 : Nat → Int32} {A0 : Nat → Nat → Int32} {f1 : Nat → Int32} {A1 : Nat → Nat → Int32} {f2 : Nat → Int32} {A2 : Nat → Nat → Int32} {p1 : Int32} {p2 : Int32} {p3 : Int32}   {res : Int32 × (Nat → Nat → Int32) × (Nat → Int32)}  : ∀ (A3 : Nat → Nat → Int32) (f3 : Nat → Int32), f9_round_b50 f0 A0 f1 A1 f2 A2 p1 p2 p3  A3 f3 = some res → ∀ (H : Heap) (locs : List Loc) (ls : Array Slot), WD G DA (wX9 G h0 a0 (some (a0 13)) f0 A0 ++ (wX1 G (a0 1) a1 f1 A1 ++ (wX6 G (a0 2) a2 f2 A2 ++ (wX8 G (a0 13) a3 f3 A3)))) H → va_S DA s.heap H locs → lv_has ls 5 [(0, .ref h0), (1, .int p1), (2, .int p2), (3, .int p3)] → W p l e rmX9_round s m args below meth c H locs 0 0 (MQ below (QI G DA res.1 (wX9 G h0 a0 (some (a0 13)) f0 A0 ++ (wX1 G (a0 1) a1 f1 A1 ++ (wX6 G (a0 2) a2 f2 A2 ++ (wX8 G (a0 13) a3 res.2.2 res.2.1))))) args s 0 0 DA) (F0 m 50 ls []) := by
  obtain ⟨hx, hb, hml, hown, hts⟩ := C0.1
  have hK := C0.2.2.2.1
  intro A3 f3 h _ _ _ hPD hS hl
  unfold f9_round_b50 at h
  refine lv_aload_n hx hb dX9_round_50 rfl (lv_at hl 0 rfl) ?_
  refine va_get (D := G.1) (ci := 9) (v := .ref (a0 13)) (C := RX9) (T := TX9) (N := 15) hx hb hts inlX9 hown hK hPD.1 0 rfl rfl 13 (by decide) (hts _ gw_472) (fun _ h9 => h9) rfl dX9_round_51 ?_
  refine lv_iload_n hx hb dX9_round_54 rfl (lv_at hl 1 rfl) ?_
  refine lv_iload_n hx hb dX9_round_55 rfl (lv_at hl 2 rfl) ?_
  refine lv_aload_n hx hb dX9_round_56 rfl (lv_at hl 0 rfl) ?_
  refine va_get (D := G.1) (ci := 9) (v := .ref (a0 2)) (C := RX9) (T := TX9) (N := 15) hx hb hts inlX9 hown hK hPD.1 0 rfl rfl 2 (by decide) (hts _ gw_356) (fun _ h9 => h9) rfl dX9_round_57 ?_
  refine va_get (D := G.1) (ci := 6) (v := .ref (a2 0)) (C := RX6) (T := TX6) (N := 10) hx hb hts inlX6 hown hK hPD.1 6 rfl rfl 0 (by decide) (hts _ gw_357) (fun _ h9 => h9) rfl dX9_round_60 ?_
  refine lv_aload_n hx hb dX9_round_63 rfl (lv_at hl 0 rfl) ?_
  refine va_get (D := G.1) (ci := 9) (v := .ref (a0 1)) (C := RX9) (T := TX9) (N := 15) hx hb hts inlX9 hown hK hPD.1 0 rfl rfl 1 (by decide) (hts _ gw_354) (fun _ h9 => h9) rfl dX9_round_64 ?_
  obtain ⟨q_1, hq_1, h⟩ := ob2 h
  refine kVI (As := [.int p1, .int p2, .ref (a2 0), .ref (a0 1)]) (rest := []) C0 (kt_X8_best l G (a0 13) a3 (a2 0) (a0 1) a1 f3 A3 16 (A2 0) f1 A1 p1 p2 (by decide) hq_1) gi_V_X9_250_X8_best (n := 4) rfl (by decide +kernel) rfl ⟨rfl, rfl, Nat.le_of_ble_eq_true rfl, Nat.le_of_ble_eq_true rfl⟩ hPD hS 12 8 rfl rfl rfl [12, 13, 14, 7, 2, 3, 4, 5] [0, 1, 6, 8, 9, 10, 11] [0, 1, 11, 12, 13, 14, 2, 10, 3, 4, 5, 6, 7, 8, 9] (wN := (wX9 G h0 a0 (some (a0 13)) f0 A0 ++ (wX1 G (a0 1) a1 f1 A1 ++ (wX6 G (a0 2) a2 f2 A2 ++ (wX8 G (a0 13) a3 q_1.2.2 q_1.2.1))))) rfl rfl rfl rfl rfl hl.1 (Nat.le_of_ble_eq_true rfl) dX9_round_67 (fun H locs hPD hS => ?_)
  refine lv_istore (lv' := [(4, .int q_1.1), (0, .ref h0), (1, .int p1), (2, .int p2), (3, .int p3)]) hx hb dX9_round_70 hl (by decide) rfl (fun ls hl => ?_)
  refine lv_iload_n hx hb dX9_round_72 rfl (lv_at hl 4 rfl) ?_
  refine lv_if_ne (tgt := 91) hx hb dX9_round_73 (by decide) (fun cc1 => ?_) (fun cc1 => ?_)
  · have h := (if_neg cc1).symm.trans h
    refine lv_iload hx hb dX9_round_91 (lv_at hl 0 rfl) ?_
    obtain rfl := Option.some.inj h
    exact eI C0 hPD.1 hPD.2 hS rfl dX9_round_93
  · have h := (if_pos cc1).symm.trans h
    refine lv_aload_n hx hb dX9_round_76 rfl (lv_at hl 1 rfl) ?_
    refine va_get (D := G.1) (ci := 9) (v := .ref (a0 2)) (C := RX9) (T := TX9) (N := 15) hx hb hts inlX9 hown hK hPD.1 0 rfl rfl 2 (by decide) (hts _ gw_356) (fun _ h9 => h9) rfl dX9_round_77 ?_
    refine va_get (D := G.1) (ci := 6) (v := .ref (a2 0)) (C := RX6) (T := TX6) (N := 10) hx hb hts inlX6 hown hK hPD.1 6 rfl rfl 0 (by decide) (hts _ gw_357) (fun _ h9 => h9) rfl dX9_round_80 ?_
    refine lv_iload hx hb dX9_round_83 (lv_at hl 0 rfl) ?_
    obtain ⟨q_2, hq_2, h⟩ := ob2 h
    refine kSI (As := [.ref (a2 0), .int q_1.1]) (rest := []) C0 (kt_X9_sumOf l G (a2 0) 16 (A2 0) q_1.1 (by decide) hq_2) gi_S_X9_254_X9_sumOf (n := 2) rfl (by decide +kernel) ⟨rfl, rfl, Nat.le_of_ble_eq_true rfl, Nat.le_of_ble_eq_true rfl⟩ hPD hS [7] [0, 1, 2, 3, 4, 5, 6, 8, 9, 10, 11, 12, 13, 14] [0, 1, 2, 3, 4, 5, 6, 14, 7, 8, 9, 10, 11, 12, 13] (wN := (wX9 G h0 a0 (some (a0 13)) f0 A0 ++ (wX1 G (a0 1) a1 f1 A1 ++ (wX6 G (a0 2) a2 f2 A2 ++ (wX8 G (a0 13) a3 q_1.2.2 q_1.2.1))))) rfl rfl rfl rfl rfl hl.1 (Nat.le_of_ble_eq_true rfl) dX9_round_85 (fun H locs hPD hS => ?_)
    refine lv_goto (tgt := 93) hx hb dX9_round_88 (by decide) ?_
    obtain rfl := Option.some.inj h
    exact eI C0 hPD.1 hPD.2 hS rfl dX9_round_93
set_option maxRecDepth 100000 in
set_option maxHeartbeats 4000000 in
theorem kt_X9_round (l : Launch) (G : Gp) (h0 : Nat) (a0 : Nat → Nat) (a1 : Nat → Nat) (a2 : Nat → Nat) (a3 : Nat → Nat) (f0 : Nat → Int32) (A0 : Nat → Nat → Int32) (f1 : Nat → Int32) (A1 : Nat → Nat → Int32) (f2 : Nat → Int32) (A2 : Nat → Nat → Int32) (f3 : Nat → Int32) (A3 : Nat → Nat → Int32) (p1 : Int32) (p2 : Int32) (p3 : Int32) : ∀ {r : Int32 × (Nat → Nat → Int32) × (Nat → Int32)}, f9_round f0 A0 f1 A1 f2 A2 f3 A3 p1 p2 p3 = some r → CtrI l yX9_round cX9_round 5 (some .int) rmX9_round G [.ref h0, .int p1, .int p2, .int p3] (wX9 G h0 a0 (some (a0 13)) f0 A0 ++ (wX1 G (a0 1) a1 f1 A1 ++ (wX6 G (a0 2) a2 f2 A2 ++ (wX8 G (a0 13) a3 f3 A3)))) r.1 (wX9 G h0 a0 (some (a0 13)) f0 A0 ++ (wX1 G (a0 1) a1 f1 A1 ++ (wX6 G (a0 2) a2 f2 A2 ++ (wX8 G (a0 13) a3 r.2.2 r.2.1)))) := by
  intro res h
  refine ctrI_of (cc := cX9_round) (maxL := 5) (ret := (some .int)) (by decide +kernel) rfl (Nat.le_of_ble_eq_true rfl) (fun p e s m below meth c DA C0 hP hD ls hl => ?_)
  have hPD : WD G DA (wX9 G h0 a0 (some (a0 13)) f0 A0 ++ (wX1 G (a0 1) a1 f1 A1 ++ (wX6 G (a0 2) a2 f2 A2 ++ (wX8 G (a0 13) a3 f3 A3)))) s.heap := ⟨hP, hD⟩
  have hS : va_S DA s.heap s.heap [] := va_S.rf
  have hl : lv_has ls 5 [(0, .ref h0), (1, .int p1), (2, .int p2), (3, .int p3)] := hl
  obtain ⟨hx, hb, hml, hown, hts⟩ := C0.1
  have hK := C0.2.2.2.1
  unfold f9_round at h
  refine lv_aload_n hx hb dX9_round_0 rfl (lv_at hl 0 rfl) ?_
  refine va_get (D := G.1) (ci := 9) (v := .ref (a0 1)) (C := RX9) (T := TX9) (N := 15) hx hb hts inlX9 hown hK hPD.1 0 rfl rfl 1 (by decide) (hts _ gw_354) (fun _ h9 => h9) rfl dX9_round_1 ?_
  refine lv_iload_n hx hb dX9_round_4 rfl (lv_at hl 1 rfl) ?_
  refine kVI (As := [.int p1]) (rest := []) C0 (kt_X1_isTold l G (a0 1) a1 f1 A1 p1) gi_V_X9_108_X1_isTold (n := 1) rfl (by decide +kernel) rfl ⟨rfl, rfl, Nat.le_of_ble_eq_true rfl, Nat.le_of_ble_eq_true rfl⟩ hPD hS 2 1 rfl rfl rfl [2, 3, 4, 5] [0, 1, 6, 7, 8, 9, 10, 11, 12, 13, 14] [0, 1, 11, 12, 13, 14, 2, 3, 4, 5, 6, 7, 8, 9, 10] (wN := (wX9 G h0 a0 (some (a0 13)) f0 A0 ++ (wX1 G (a0 1) a1 f1 A1 ++ (wX6 G (a0 2) a2 f2 A2 ++ (wX8 G (a0 13) a3 f3 A3))))) rfl rfl rfl rfl rfl hl.1 (Nat.le_of_ble_eq_true rfl) dX9_round_5 (fun H locs hPD hS => ?_)
  refine lv_if_eq (tgt := 30) hx hb dX9_round_8 (by decide) (fun cc1 => ?_) (fun cc1 => ?_)
  · have h := (if_pos cc1).symm.trans h
    refine lv_iconst (v := (-1)) hx hb dX9_round_30 (by decide) ?_
    obtain rfl := Option.some.inj h
    exact eI C0 hPD.1 hPD.2 hS rfl dX9_round_31
  · have h := (if_neg cc1).symm.trans h
    refine lv_iload_n hx hb dX9_round_11 rfl (lv_at hl 2 rfl) ?_
    refine lv_iconst (v := 1) hx hb dX9_round_12 (by decide) ?_
    refine lv_bipush (v := 8) hx hb dX9_round_13 (by decide) ?_
    refine kSI (As := [.int p2, .int 1, .int 8]) (rest := []) C0 (kt_X9_within l G  p2 1 8) gi_S_X9_90_X9_within (n := 3) rfl (by decide +kernel) ⟨rfl, rfl, Nat.le_of_ble_eq_true rfl, Nat.le_of_ble_eq_true rfl⟩ hPD hS [] [0, 1, 2, 3, 4, 5, 6, 7, 8, 9, 10, 11, 12, 13, 14] [0, 1, 2, 3, 4, 5, 6, 7, 8, 9, 10, 11, 12, 13, 14] (wN := (wX9 G h0 a0 (some (a0 13)) f0 A0 ++ (wX1 G (a0 1) a1 f1 A1 ++ (wX6 G (a0 2) a2 f2 A2 ++ (wX8 G (a0 13) a3 f3 A3))))) rfl rfl rfl rfl rfl hl.1 (Nat.le_of_ble_eq_true rfl) dX9_round_15 (fun H locs hPD hS => ?_)
    refine lv_if_eq (tgt := 30) hx hb dX9_round_18 (by decide) (fun cc1 => ?_) (fun cc1 => ?_)
    · have h := (if_pos cc1).symm.trans h
      refine lv_iconst (v := (-1)) hx hb dX9_round_30 (by decide) ?_
      obtain rfl := Option.some.inj h
      exact eI C0 hPD.1 hPD.2 hS rfl dX9_round_31
    · have h := (if_neg cc1).symm.trans h
      refine lv_iload_n hx hb dX9_round_21 rfl (lv_at hl 3 rfl) ?_
      refine lv_iconst (v := 0) hx hb dX9_round_22 (by decide) ?_
      refine lv_iconst (v := 1) hx hb dX9_round_23 (by decide) ?_
      refine kSI (As := [.int p3, .int 0, .int 1]) (rest := []) C0 (kt_X9_within l G  p3 0 1) gi_S_X9_90_X9_within (n := 3) rfl (by decide +kernel) ⟨rfl, rfl, Nat.le_of_ble_eq_true rfl, Nat.le_of_ble_eq_true rfl⟩ hPD hS [] [0, 1, 2, 3, 4, 5, 6, 7, 8, 9, 10, 11, 12, 13, 14] [0, 1, 2, 3, 4, 5, 6, 7, 8, 9, 10, 11, 12, 13, 14] (wN := (wX9 G h0 a0 (some (a0 13)) f0 A0 ++ (wX1 G (a0 1) a1 f1 A1 ++ (wX6 G (a0 2) a2 f2 A2 ++ (wX8 G (a0 13) a3 f3 A3))))) rfl rfl rfl rfl rfl hl.1 (Nat.le_of_ble_eq_true rfl) dX9_round_24 (fun H locs hPD hS => ?_)
      refine lv_if_ne (tgt := 32) hx hb dX9_round_27 (by decide) (fun cc1 => ?_) (fun cc1 => ?_)
      · have h := (if_neg cc1).symm.trans h
        refine lv_aload_n hx hb dX9_round_32 rfl (lv_at hl 0 rfl) ?_
        refine va_get (D := G.1) (ci := 9) (v := .ref (a0 13)) (C := RX9) (T := TX9) (N := 15) hx hb hts inlX9 hown hK hPD.1 0 rfl rfl 13 (by decide) (hts _ gw_472) (fun _ h9 => h9) rfl dX9_round_33 ?_
        refine lv_ifnonnull (tgt := 50) hx hb dX9_round_36 (by decide) ?_
        exact ww_f9_round_b50 C0 A3 f3 h _ _ _ hPD hS (lv_sub hl [0, 1, 2, 3] rfl)
      · have h := (if_pos cc1).symm.trans h
        refine lv_iconst (v := (-1)) hx hb dX9_round_30 (by decide) ?_
        obtain rfl := Option.some.inj h
        exact eI C0 hPD.1 hPD.2 hS rfl dX9_round_31
abbrev rmX9_lanes : Room := { frames := 6, cells := 0, slots := 0, locals := 136 }
set_option maxRecDepth 100000 in
set_option maxHeartbeats 4000000 in
theorem kt_X9_lanes (l : Launch) (G : Gp) (h0 : Nat) (a0 : Nat → Nat) (wk : Option Nat) (a1 : Nat → Nat) (f0 : Nat → Int32) (A0 : Nat → Nat → Int32) (f1 : Nat → Int32) (A1 : Nat → Nat → Int32) (p1 : Int32) : ∀ {r : Int32 × (Nat → Nat → Int32)}, f9_lanes f0 A0 f1 A1 p1 = some r → CtrI l yX9_lanes cX9_lanes 3 (some .int) rmX9_lanes G [.ref h0, .int p1] (wX9 G h0 a0 wk f0 A0 ++ (wX1 G (a0 1) a1 f1 A1)) r.1 (wX9 G h0 a0 wk f0 A0 ++ (wX1 G (a0 1) a1 f1 r.2)) := by
  intro res h
  refine ctrI_of (cc := cX9_lanes) (maxL := 3) (ret := (some .int)) (by decide +kernel) rfl (Nat.le_of_ble_eq_true rfl) (fun p e s m below meth c DA C0 hP hD ls hl => ?_)
  have hPD : WD G DA (wX9 G h0 a0 wk f0 A0 ++ (wX1 G (a0 1) a1 f1 A1)) s.heap := ⟨hP, hD⟩
  have hS : va_S DA s.heap s.heap [] := va_S.rf
  have hl : lv_has ls 3 [(0, .ref h0), (1, .int p1)] := hl
  obtain ⟨hx, hb, hml, hown, hts⟩ := C0.1
  have hK := C0.2.2.2.1
  unfold f9_lanes at h
  refine lv_iload_n hx hb dX9_lanes_0 rfl (lv_at hl 1 rfl) ?_
  refine lv_iconst (v := 0) hx hb dX9_lanes_1 (by decide) ?_
  refine lv_iconst (v := 3) hx hb dX9_lanes_2 (by decide) ?_
  refine kSI (As := [.int p1, .int 0, .int 3]) (rest := []) C0 (kt_X9_within l G  p1 0 3) gi_S_X9_90_X9_within (n := 3) rfl (by decide +kernel) ⟨rfl, rfl, Nat.le_of_ble_eq_true rfl, Nat.le_of_ble_eq_true rfl⟩ hPD hS [] [0, 1, 2, 3, 4, 5] [0, 1, 2, 3, 4, 5] (wN := (wX9 G h0 a0 wk f0 A0 ++ (wX1 G (a0 1) a1 f1 A1))) rfl rfl rfl rfl rfl hl.1 (Nat.le_of_ble_eq_true rfl) dX9_lanes_3 (fun H locs hPD hS => ?_)
  refine lv_if_ne (tgt := 11) hx hb dX9_lanes_6 (by decide) (fun cc1 => ?_) (fun cc1 => ?_)
  · have h := (if_neg cc1).symm.trans h
    refine lv_iload_n hx hb dX9_lanes_11 rfl (lv_at hl 1 rfl) ?_
    refine lv_if_ne (tgt := 23) hx hb dX9_lanes_12 (by decide) (fun cc1 => ?_) (fun cc1 => ?_)
    · have h := (if_neg cc1).symm.trans h
      refine lv_iload_n hx hb dX9_lanes_23 rfl (lv_at hl 1 rfl) ?_
      refine lv_iconst (v := 1) hx hb dX9_lanes_24 (by decide) ?_
      refine lv_icmp_ne (tgt := 36) hx hb dX9_lanes_25 (by decide) (fun cc1 => ?_) (fun cc1 => ?_)
      · have h := (if_neg cc1).symm.trans h
        refine lv_aload_n hx hb dX9_lanes_36 rfl (lv_at hl 0 rfl) ?_
        refine va_get (D := G.1) (ci := 9) (v := .ref (a0 1)) (C := RX9) (T := TX9) (N := 15) hx hb hts inlX9 hown hK hPD.1 0 rfl rfl 1 (by decide) (hts _ gw_354) (fun _ h9 => h9) rfl dX9_lanes_37 ?_
        obtain ⟨q_1, hq_1, h⟩ := ob2 h
        refine kVI (As := []) (rest := []) C0 (kt_X1_firstBridge l G (a0 1) a1 f1 A1 hq_1) gi_V_X9_263_X1_firstBridge (n := 0) rfl (by decide +kernel) rfl ⟨rfl, rfl, Nat.le_of_ble_eq_true rfl, Nat.le_of_ble_eq_true rfl⟩ hPD hS 2 1 rfl rfl rfl [2, 3, 4, 5] [0, 1] [0, 1, 2, 3, 4, 5] (wN := (wX9 G h0 a0 wk f0 A0 ++ (wX1 G (a0 1) a1 f1 q_1.2))) rfl rfl rfl rfl rfl hl.1 (Nat.le_of_ble_eq_true rfl) dX9_lanes_40 (fun H locs hPD hS => ?_)
        refine lv_istore_n (lv' := [(2, .int q_1.1), (0, .ref h0), (1, .int p1)]) hx hb dX9_lanes_43 rfl hl (by decide) rfl (fun ls hl => ?_)
        refine lv_iload_n hx hb dX9_lanes_44 rfl (lv_at hl 0 rfl) ?_
        refine lv_if_ge (tgt := 51) hx hb dX9_lanes_45 (by decide) (fun cc1 => ?_) (fun cc1 => ?_)
        · have h := (if_pos cc1).symm.trans h
          refine lv_iload_n hx hb dX9_lanes_51 rfl (lv_at hl 2 rfl) ?_
          refine lv_iconst (v := 2) hx hb dX9_lanes_52 (by decide) ?_
          refine lv_icmp_ne (tgt := 63) hx hb dX9_lanes_53 (by decide) (fun cc1 => ?_) (fun cc1 => ?_)
          · have h := (if_neg cc1).symm.trans h
            refine lv_iload_n hx hb dX9_lanes_63 rfl (lv_at hl 0 rfl) ?_
            refine lv_bipush (v := 16) hx hb dX9_lanes_64 (by decide) ?_
            refine lv_irem hx hb dX9_lanes_66 (by decide) ?_
            obtain rfl := Option.some.inj h
            exact eI C0 hPD.1 hPD.2 hS rfl dX9_lanes_67
          · have h := (if_pos cc1).symm.trans h
            refine lv_iload_n hx hb dX9_lanes_56 rfl (lv_at hl 0 rfl) ?_
            refine lv_bipush (v := 16) hx hb dX9_lanes_57 (by decide) ?_
            refine lv_idiv hx hb dX9_lanes_59 (by decide) ?_
            refine lv_goto (tgt := 67) hx hb dX9_lanes_60 (by decide) ?_
            obtain rfl := Option.some.inj h
            exact eI C0 hPD.1 hPD.2 hS rfl dX9_lanes_67
        · have h := (if_neg cc1).symm.trans h
          refine lv_bipush (v := (-2)) hx hb dX9_lanes_48 (by decide) ?_
          obtain rfl := Option.some.inj h
          exact eI C0 hPD.1 hPD.2 hS rfl dX9_lanes_50
      · have h := (if_pos cc1).symm.trans h
        refine lv_aload_n hx hb dX9_lanes_28 rfl (lv_at hl 0 rfl) ?_
        refine va_get (D := G.1) (ci := 9) (v := .ref (a0 1)) (C := RX9) (T := TX9) (N := 15) hx hb hts inlX9 hown hK hPD.1 0 rfl rfl 1 (by decide) (hts _ gw_354) (fun _ h9 => h9) rfl dX9_lanes_29 ?_
        obtain ⟨q_2, hq_2, h⟩ := ob2 h
        refine kVI (As := []) (rest := []) C0 (kt_X1_bridgesInAll l G (a0 1) a1 f1 A1 hq_2) gi_V_X9_260_X1_bridgesInAll (n := 0) rfl (by decide +kernel) rfl ⟨rfl, rfl, Nat.le_of_ble_eq_true rfl, Nat.le_of_ble_eq_true rfl⟩ hPD hS 2 1 rfl rfl rfl [2, 3, 4, 5] [0, 1] [0, 1, 2, 3, 4, 5] (wN := (wX9 G h0 a0 wk f0 A0 ++ (wX1 G (a0 1) a1 f1 q_2.2))) rfl rfl rfl rfl rfl hl.1 (Nat.le_of_ble_eq_true rfl) dX9_lanes_32 (fun H locs hPD hS => ?_)
        obtain rfl := Option.some.inj h
        exact eI C0 hPD.1 hPD.2 hS rfl dX9_lanes_35
    · have h := (if_pos cc1).symm.trans h
      refine lv_aload_n hx hb dX9_lanes_15 rfl (lv_at hl 0 rfl) ?_
      refine va_get (D := G.1) (ci := 9) (v := .ref (a0 1)) (C := RX9) (T := TX9) (N := 15) hx hb hts inlX9 hown hK hPD.1 0 rfl rfl 1 (by decide) (hts _ gw_354) (fun _ h9 => h9) rfl dX9_lanes_16 ?_
      obtain ⟨q_3, hq_3, h⟩ := ob2 h
      refine kVI (As := []) (rest := []) C0 (kt_X1_lanesInAll l G (a0 1) a1 f1 A1 hq_3) gi_V_X9_257_X1_lanesInAll (n := 0) rfl (by decide +kernel) rfl ⟨rfl, rfl, Nat.le_of_ble_eq_true rfl, Nat.le_of_ble_eq_true rfl⟩ hPD hS 2 1 rfl rfl rfl [2, 3, 4, 5] [0, 1] [0, 1, 2, 3, 4, 5] (wN := (wX9 G h0 a0 wk f0 A0 ++ (wX1 G (a0 1) a1 f1 A1))) rfl rfl rfl rfl rfl hl.1 (Nat.le_of_ble_eq_true rfl) dX9_lanes_19 (fun H locs hPD hS => ?_)
      obtain rfl := Option.some.inj h
      exact eI C0 hPD.1 hPD.2 hS rfl dX9_lanes_22
  · have h := (if_pos cc1).symm.trans h
    refine lv_iconst (v := (-1)) hx hb dX9_lanes_9 (by decide) ?_
    obtain rfl := Option.some.inj h
    exact eI C0 hPD.1 hPD.2 hS rfl dX9_lanes_10
abbrev rmX9_watches : Room := { frames := 71, cells := 0, slots := 0, locals := 1899 }
set_option maxRecDepth 100000 in
set_option maxHeartbeats 4000000 in
theorem ww_f9_watches_b19  (C0 : Cx cX9_watches 3 (some .int) RX9 p s m args meth c G DA) {h0 : Nat} {a0 : Nat → Nat} {wk : Option Nat} {a1 : Nat → Nat} {a2 : Nat → Nat} {f0 : Nat → Int32} {A0 : Nat → Nat → Int32} {f1 : Nat → Int32} {A1 : Nat → Nat → Int32} {f2 : Nat → Int32} {p1 : Int32}   {res : Int32 × (Nat → Nat → Int32)}  : ∀ (A2 : Nat → Nat → Int32), f9_watches_b19 f0 A0 f1 A1 f2 p1  A2 = some res → ∀ (H : Heap) (locs : List Loc) (ls : Array Slot), WD G DA (wX9 G h0 a0 wk f0 A0 ++ (wX1 G (a0 1) a1 f1 A1 ++ (wX4 G (a0 8) a2 f2 A2))) H → va_S DA s.heap H locs → lv_has ls 3 [(0, .ref h0), (1, .int p1)] → W p l e rmX9_watches s m args below meth c H locs 0 0 (MQ below (QI G DA res.1 (wX9 G h0 a0 wk f0 A0 ++ (wX1 G (a0 1) a1 f1 A1 ++ (wX4 G (a0 8) a2 f2 res.2)))) args s 0 0 DA) (F0 m 19 ls []) := by
  obtain ⟨hx, hb, hml, hown, hts⟩ := C0.1
  have hK := C0.2.2.2.1
  intro A2 h _ _ _ hPD hS hl
  unfold f9_watches_b19 at h
  refine lv_aload_n hx hb dX9_watches_19 rfl (lv_at hl 0 rfl) ?_
  refine va_get (D := G.1) (ci := 9) (v := .ref (a0 8)) (C := RX9) (T := TX9) (N := 15) hx hb hts inlX9 hown hK hPD.1 0 rfl rfl 8 (by decide) (hts _ gw_490) (fun _ h9 => h9) rfl dX9_watches_20 ?_
  refine lv_aload_n hx hb dX9_watches_23 rfl (lv_at hl 0 rfl) ?_
  refine va_get (D := G.1) (ci := 9) (v := .ref (a0 1)) (C := RX9) (T := TX9) (N := 15) hx hb hts inlX9 hown hK hPD.1 0 rfl rfl 1 (by decide) (hts _ gw_354) (fun _ h9 => h9) rfl dX9_watches_24 ?_
  obtain ⟨q_1, hq_1, h⟩ := ob2 h
  refine kVI (As := [.ref (a0 1)]) (rest := []) C0 (kt_X4_fewest l G (a0 8) a2 (a0 1) a1 f2 A2 f1 A1 hq_1) gi_V_X9_266_X4_fewest (n := 1) rfl (by decide +kernel) rfl ⟨rfl, rfl, Nat.le_of_ble_eq_true rfl, Nat.le_of_ble_eq_true rfl⟩ hPD hS 6 4 rfl rfl rfl [6, 7, 2, 3, 4, 5] [0, 1] [0, 1, 4, 5, 6, 7, 2, 3] (wN := (wX9 G h0 a0 wk f0 A0 ++ (wX1 G (a0 1) a1 f1 A1 ++ (wX4 G (a0 8) a2 f2 q_1.2)))) rfl rfl rfl rfl rfl hl.1 (Nat.le_of_ble_eq_true rfl) dX9_watches_27 (fun H locs hPD hS => ?_)
  refine lv_istore_n (lv' := [(2, .int q_1.1), (0, .ref h0), (1, .int p1)]) hx hb dX9_watches_30 rfl hl (by decide) rfl (fun ls hl => ?_)
  refine lv_iload_n hx hb dX9_watches_31 rfl (lv_at hl 2 rfl) ?_
  refine lv_bipush (v := 100) hx hb dX9_watches_32 (by decide) ?_
  refine lv_icmp_ne (tgt := 41) hx hb dX9_watches_34 (by decide) (fun cc1 => ?_) (fun cc1 => ?_)
  · have h := (if_neg cc1).symm.trans h
    refine lv_aload_n hx hb dX9_watches_41 rfl (lv_at hl 1 rfl) ?_
    refine va_get (D := G.1) (ci := 9) (v := .ref (a0 8)) (C := RX9) (T := TX9) (N := 15) hx hb hts inlX9 hown hK hPD.1 0 rfl rfl 8 (by decide) (hts _ gw_490) (fun _ h9 => h9) rfl dX9_watches_42 ?_
    refine lv_iload_n hx hb dX9_watches_45 rfl (lv_at hl 2 rfl) ?_
    refine lv_iload_n hx hb dX9_watches_46 rfl (lv_at hl 0 rfl) ?_
    refine lv_aload_n hx hb dX9_watches_47 rfl (lv_at hl 1 rfl) ?_
    refine va_get (D := G.1) (ci := 9) (v := .ref (a0 1)) (C := RX9) (T := TX9) (N := 15) hx hb hts inlX9 hown hK hPD.1 0 rfl rfl 1 (by decide) (hts _ gw_354) (fun _ h9 => h9) rfl dX9_watches_48 ?_
    obtain ⟨q_2, hq_2, h⟩ := ob2 h
    refine kVI (As := [.int p1, .int q_1.1, .ref (a0 1)]) (rest := []) C0 (kt_X4_watchOf l G (a0 8) a2 (a0 1) a1 f2 q_1.2 f1 A1 p1 q_1.1 hq_2) gi_V_X9_270_X4_watchOf (n := 3) rfl (by decide +kernel) rfl ⟨rfl, rfl, Nat.le_of_ble_eq_true rfl, Nat.le_of_ble_eq_true rfl⟩ hPD hS 6 4 rfl rfl rfl [6, 7, 2, 3, 4, 5] [0, 1] [0, 1, 4, 5, 6, 7, 2, 3] (wN := (wX9 G h0 a0 wk f0 A0 ++ (wX1 G (a0 1) a1 f1 A1 ++ (wX4 G (a0 8) a2 f2 q_2.2)))) rfl rfl rfl rfl rfl hl.1 (Nat.le_of_ble_eq_true rfl) dX9_watches_51 (fun H locs hPD hS => ?_)
    obtain rfl := Option.some.inj h
    exact eI C0 hPD.1 hPD.2 hS rfl dX9_watches_54
  · have h := (if_pos cc1).symm.trans h
    refine lv_iload_n hx hb dX9_watches_37 rfl (lv_at hl 0 rfl) ?_
    refine lv_goto (tgt := 54) hx hb dX9_watches_38 (by decide) ?_
    obtain rfl := Option.some.inj h
    exact eI C0 hPD.1 hPD.2 hS rfl dX9_watches_54
set_option maxRecDepth 100000 in
set_option maxHeartbeats 4000000 in
theorem kt_X9_watches (l : Launch) (G : Gp) (h0 : Nat) (a0 : Nat → Nat) (wk : Option Nat) (a1 : Nat → Nat) (a2 : Nat → Nat) (f0 : Nat → Int32) (A0 : Nat → Nat → Int32) (f1 : Nat → Int32) (A1 : Nat → Nat → Int32) (f2 : Nat → Int32) (A2 : Nat → Nat → Int32) (p1 : Int32) : ∀ {r : Int32 × (Nat → Nat → Int32)}, f9_watches f0 A0 f1 A1 f2 A2 p1 = some r → CtrI l yX9_watches cX9_watches 3 (some .int) rmX9_watches G [.ref h0, .int p1] (wX9 G h0 a0 wk f0 A0 ++ (wX1 G (a0 1) a1 f1 A1 ++ (wX4 G (a0 8) a2 f2 A2))) r.1 (wX9 G h0 a0 wk f0 A0 ++ (wX1 G (a0 1) a1 f1 A1 ++ (wX4 G (a0 8) a2 f2 r.2))) := by
  intro res h
  refine ctrI_of (cc := cX9_watches) (maxL := 3) (ret := (some .int)) (by decide +kernel) rfl (Nat.le_of_ble_eq_true rfl) (fun p e s m below meth c DA C0 hP hD ls hl => ?_)
  have hPD : WD G DA (wX9 G h0 a0 wk f0 A0 ++ (wX1 G (a0 1) a1 f1 A1 ++ (wX4 G (a0 8) a2 f2 A2))) s.heap := ⟨hP, hD⟩
  have hS : va_S DA s.heap s.heap [] := va_S.rf
  have hl : lv_has ls 3 [(0, .ref h0), (1, .int p1)] := hl
  obtain ⟨hx, hb, hml, hown, hts⟩ := C0.1
  have hK := C0.2.2.2.1
  unfold f9_watches at h
  refine lv_iload_n hx hb dX9_watches_0 rfl (lv_at hl 1 rfl) ?_
  refine lv_bipush (v := 100) hx hb dX9_watches_1 (by decide) ?_
  refine lv_icmp_eq (tgt := 19) hx hb dX9_watches_3 (by decide) (fun cc1 => ?_) (fun cc1 => ?_)
  · have h := (if_pos cc1).symm.trans h
    exact ww_f9_watches_b19 C0 A2 h _ _ _ hPD hS (lv_sub hl [0, 1] rfl)
  · have h := (if_neg cc1).symm.trans h
    refine lv_aload_n hx hb dX9_watches_6 rfl (lv_at hl 0 rfl) ?_
    refine va_get (D := G.1) (ci := 9) (v := .ref (a0 1)) (C := RX9) (T := TX9) (N := 15) hx hb hts inlX9 hown hK hPD.1 0 rfl rfl 1 (by decide) (hts _ gw_354) (fun _ h9 => h9) rfl dX9_watches_7 ?_
    refine lv_iload_n hx hb dX9_watches_10 rfl (lv_at hl 1 rfl) ?_
    refine kVI (As := [.int p1]) (rest := []) C0 (kt_X1_isTold l G (a0 1) a1 f1 A1 p1) gi_V_X9_108_X1_isTold (n := 1) rfl (by decide +kernel) rfl ⟨rfl, rfl, Nat.le_of_ble_eq_true rfl, Nat.le_of_ble_eq_true rfl⟩ hPD hS 2 1 rfl rfl rfl [2, 3, 4, 5] [0, 1, 6, 7] [0, 1, 4, 5, 6, 7, 2, 3] (wN := (wX9 G h0 a0 wk f0 A0 ++ (wX1 G (a0 1) a1 f1 A1 ++ (wX4 G (a0 8) a2 f2 A2)))) rfl rfl rfl rfl rfl hl.1 (Nat.le_of_ble_eq_true rfl) dX9_watches_11 (fun H locs hPD hS => ?_)
    refine lv_if_ne (tgt := 19) hx hb dX9_watches_14 (by decide) (fun cc1 => ?_) (fun cc1 => ?_)
    · have h := (if_neg cc1).symm.trans h
      exact ww_f9_watches_b19 C0 A2 h _ _ _ hPD hS (lv_sub hl [0, 1] rfl)
    · have h := (if_pos cc1).symm.trans h
      refine lv_iconst (v := (-1)) hx hb dX9_watches_17 (by decide) ?_
      obtain rfl := Option.some.inj h
      exact eI C0 hPD.1 hPD.2 hS rfl dX9_watches_18
abbrev rmX9_reaches : Room := { frames := 2, cells := 0, slots := 0, locals := 43 }
set_option maxRecDepth 100000 in
set_option maxHeartbeats 4000000 in
theorem kt_X9_reaches (l : Launch) (G : Gp) (h0 : Nat) (a0 : Nat → Nat) (wk : Option Nat) (a1 : Nat → Nat) (f0 : Nat → Int32) (A0 : Nat → Nat → Int32) (f1 : Nat → Int32) (A1 : Nat → Nat → Int32) (p1 : Int32) (p2 : Int32) : CtrI l yX9_reaches cX9_reaches 4 (some .boolean) rmX9_reaches G [.ref h0, .int p1, .int p2] (wX9 G h0 a0 wk f0 A0 ++ (wX1 G (a0 1) a1 f1 A1)) (f9_reaches f0 A0 f1 A1 p1 p2) (wX9 G h0 a0 wk f0 A0 ++ (wX1 G (a0 1) a1 f1 A1)) := by
  obtain ⟨res, h⟩ : ∃ res, f9_reaches f0 A0 f1 A1 p1 p2 = res := ⟨_, rfl⟩
  rw [h]
  refine ctrI_of (cc := cX9_reaches) (maxL := 4) (ret := (some .boolean)) (by decide +kernel) rfl (Nat.le_of_ble_eq_true rfl) (fun p e s m below meth c DA C0 hP hD ls hl => ?_)
  have hPD : WD G DA (wX9 G h0 a0 wk f0 A0 ++ (wX1 G (a0 1) a1 f1 A1)) s.heap := ⟨hP, hD⟩
  have hS : va_S DA s.heap s.heap [] := va_S.rf
  have hl : lv_has ls 4 [(0, .ref h0), (1, .int p1), (2, .int p2)] := hl
  obtain ⟨hx, hb, hml, hown, hts⟩ := C0.1
  have hK := C0.2.2.2.1
  unfold f9_reaches at h
  refine lv_aload_n hx hb dX9_reaches_0 rfl (lv_at hl 0 rfl) ?_
  refine va_get (D := G.1) (ci := 9) (v := .ref (a0 1)) (C := RX9) (T := TX9) (N := 15) hx hb hts inlX9 hown hK hPD.1 0 rfl rfl 1 (by decide) (hts _ gw_354) (fun _ h9 => h9) rfl dX9_reaches_1 ?_
  refine lv_iload_n hx hb dX9_reaches_4 rfl (lv_at hl 1 rfl) ?_
  refine kVI (As := [.int p1]) (rest := []) C0 (kt_X1_stepsTo l G (a0 1) a1 f1 A1 p1) gi_V_X9_233_X1_stepsTo (n := 1) rfl (by decide +kernel) rfl ⟨rfl, rfl, Nat.le_of_ble_eq_true rfl, Nat.le_of_ble_eq_true rfl⟩ hPD hS 2 1 rfl rfl rfl [2, 3, 4, 5] [0, 1] [0, 1, 2, 3, 4, 5] (wN := (wX9 G h0 a0 wk f0 A0 ++ (wX1 G (a0 1) a1 f1 A1))) rfl rfl rfl rfl rfl hl.1 (Nat.le_of_ble_eq_true rfl) dX9_reaches_5 (fun H locs hPD hS => ?_)
  refine lv_istore_n (lv' := [(3, .int (f1_stepsTo f1 A1 p1)), (0, .ref h0), (1, .int p1), (2, .int p2)]) hx hb dX9_reaches_8 rfl hl (by decide) rfl (fun ls hl => ?_)
  refine lv_iload_n hx hb dX9_reaches_9 rfl (lv_at hl 0 rfl) ?_
  refine lv_if_lt (tgt := 22) hx hb dX9_reaches_10 (by decide) (fun cc1 => ?_) (fun cc1 => ?_)
  · have h := (if_pos cc1).symm.trans h
    refine lv_iconst (v := 0) hx hb dX9_reaches_22 (by decide) ?_
    subst h
    exact eZ C0 hPD.1 hPD.2 hS rfl rfl dX9_reaches_23
  · have h := (if_neg cc1).symm.trans h
    refine lv_iload_n hx hb dX9_reaches_13 rfl (lv_at hl 0 rfl) ?_
    refine lv_iload_n hx hb dX9_reaches_14 rfl (lv_at hl 3 rfl) ?_
    refine lv_icmp_gt (tgt := 22) hx hb dX9_reaches_15 (by decide) (fun cc1 => ?_) (fun cc1 => ?_)
    · have h := (if_pos cc1).symm.trans h
      refine lv_iconst (v := 0) hx hb dX9_reaches_22 (by decide) ?_
      subst h
      exact eZ C0 hPD.1 hPD.2 hS rfl rfl dX9_reaches_23
    · have h := (if_neg cc1).symm.trans h
      refine lv_iconst (v := 1) hx hb dX9_reaches_18 (by decide) ?_
      refine lv_goto (tgt := 23) hx hb dX9_reaches_19 (by decide) ?_
      subst h
      exact eZ C0 hPD.1 hPD.2 hS rfl rfl dX9_reaches_23
abbrev rmX9_alibis : Room := { frames := 4, cells := 0, slots := 0, locals := 91 }
set_option maxRecDepth 100000 in
set_option maxHeartbeats 4000000 in
theorem ww_f9_alibis_b133  (C0 : Cx cX9_alibis 8 (some .int) RX9 p s m args meth c G DA) {h0 : Nat} {a0 : Nat → Nat} {wk : Option Nat} {a1 : Nat → Nat} {a2 : Nat → Nat} {f0 : Nat → Int32} {A0 : Nat → Nat → Int32} {A1 : Nat → Nat → Int32} {f2 : Nat → Int32} {p1 : Int32} {p2 : Int32} {p3 : Int32}  {k133 : (Nat → Int32) → (Nat → Nat → Int32) → Int32 → Int32 → Option (Int32 × (Nat → Int32) × (Nat → Nat → Int32))} {res : Int32 × (Nat → Int32) × (Nat → Nat → Int32)}  (hk133 : ∀ (f1 : Nat → Int32) (A2 : Nat → Nat → Int32) (l4 : Int32) (l5 : Int32), k133 f1 A2 l4 l5 = some res → ∀ (H : Heap) (locs : List Loc) (ls : Array Slot), WD G DA (wX9 G h0 a0 wk f0 A0 ++ (wX7 G (a0 0) a1 f1 A1 ++ (wX1 G (a0 1) a2 f2 A2))) H → va_S DA s.heap H locs → lv_has ls 8 [(0, .ref h0), (1, .int p1), (2, .int p2), (3, .int p3), (4, .int l4), (5, .int l5)] → W p l e rmX9_alibis s m args below meth c H locs 0 0 (MQ below (QI G DA res.1 (wX9 G h0 a0 wk f0 A0 ++ (wX7 G (a0 0) a1 res.2.1 A1 ++ (wX1 G (a0 1) a2 f2 res.2.2)))) args s 0 0 DA) (F0 m 133 ls [])) : ∀ (f1 : Nat → Int32) (A2 : Nat → Nat → Int32) (l4 : Int32) (l5 : Int32), f9_alibis_b133 f0 A0 A1 f2 p1 p2 p3  k133 f1 A2 l4 l5 = some res → ∀ (H : Heap) (locs : List Loc) (ls : Array Slot), WD G DA (wX9 G h0 a0 wk f0 A0 ++ (wX7 G (a0 0) a1 f1 A1 ++ (wX1 G (a0 1) a2 f2 A2))) H → va_S DA s.heap H locs → lv_has ls 8 [(0, .ref h0), (1, .int p1), (2, .int p2), (3, .int p3), (4, .int l4), (5, .int l5)] → W p l e rmX9_alibis s m args below meth c H locs 0 0 (MQ below (QI G DA res.1 (wX9 G h0 a0 wk f0 A0 ++ (wX7 G (a0 0) a1 res.2.1 A1 ++ (wX1 G (a0 1) a2 f2 res.2.2)))) args s 0 0 DA) (F0 m 133 ls []) := by
  obtain ⟨hx, hb, hml, hown, hts⟩ := C0.1
  have hK := C0.2.2.2.1
  intro f1 A2 l4 l5 h _ _ _ hPD hS hl
  unfold f9_alibis_b133 at h
  refine lv_iload hx hb dX9_alibis_133 (lv_at hl 5 rfl) ?_
  refine lv_iload_n hx hb dX9_alibis_135 rfl (lv_at hl 1 rfl) ?_
  refine lv_icmp_ge (tgt := 230) hx hb dX9_alibis_136 (by decide) (fun cc1 => ?_) (fun cc1 => ?_)
  · have h := (if_pos cc1).symm.trans h
    refine lv_iload hx hb dX9_alibis_230 (lv_at hl 4 rfl) ?_
    obtain rfl := Option.some.inj h
    exact eI C0 hPD.1 hPD.2 hS rfl dX9_alibis_232
  · have h := (if_neg cc1).symm.trans h
    refine lv_aload_n hx hb dX9_alibis_139 rfl (lv_at hl 0 rfl) ?_
    refine lv_aload_n hx hb dX9_alibis_140 rfl (lv_at hl 0 rfl) ?_
    refine va_get (D := G.1) (ci := 9) (v := .ref (a0 0)) (C := RX9) (T := TX9) (N := 15) hx hb hts inlX9 hown hK hPD.1 0 rfl rfl 0 (by decide) (hts _ gw_366) (fun _ h9 => h9) rfl dX9_alibis_141 ?_
    refine lv_iconst (v := 4) hx hb dX9_alibis_144 (by decide) ?_
    refine lv_iload hx hb dX9_alibis_145 (lv_at hl 5 rfl) ?_
    refine lv_imul hx hb dX9_alibis_147 ?_
    refine kVI (As := [.int (4 * l5)]) (rest := [.ref h0]) C0 (kt_X7_byteAt l G (a0 0) a1 f1 A1 (4 * l5)) gi_V_X9_224_X7_byteAt (n := 1) rfl (by decide +kernel) rfl ⟨rfl, rfl, Nat.le_of_ble_eq_true rfl, Nat.le_of_ble_eq_true rfl⟩ hPD hS 2 7 rfl rfl rfl [2, 3] [0, 1, 4, 5, 6, 7] [0, 1, 6, 7, 2, 3, 4, 5] (wN := (wX9 G h0 a0 wk f0 A0 ++ (wX7 G (a0 0) a1 f1 A1 ++ (wX1 G (a0 1) a2 f2 A2)))) rfl rfl rfl rfl rfl hl.1 (Nat.le_of_ble_eq_true rfl) dX9_alibis_148 (fun H locs hPD hS => ?_)
    refine lv_iload_n hx hb dX9_alibis_151 rfl (lv_at hl 3 rfl) ?_
    refine lv_aload_n hx hb dX9_alibis_152 rfl (lv_at hl 0 rfl) ?_
    refine va_get (D := G.1) (ci := 9) (v := .ref (a0 0)) (C := RX9) (T := TX9) (N := 15) hx hb hts inlX9 hown hK hPD.1 0 rfl rfl 0 (by decide) (hts _ gw_366) (fun _ h9 => h9) rfl dX9_alibis_153 ?_
    refine lv_iconst (v := 4) hx hb dX9_alibis_156 (by decide) ?_
    refine lv_iload hx hb dX9_alibis_157 (lv_at hl 5 rfl) ?_
    refine lv_imul hx hb dX9_alibis_159 ?_
    refine lv_iconst (v := 1) hx hb dX9_alibis_160 (by decide) ?_
    refine lv_iadd hx hb dX9_alibis_161 ?_
    refine kVI (As := [.int ((4 * l5) + 1)]) (rest := [.int p3, .int (f7_byteAt f1 A1 (4 * l5)), .ref h0]) C0 (kt_X7_byteAt l G (a0 0) a1 f1 A1 ((4 * l5) + 1)) gi_V_X9_224_X7_byteAt (n := 1) rfl (by decide +kernel) rfl ⟨rfl, rfl, Nat.le_of_ble_eq_true rfl, Nat.le_of_ble_eq_true rfl⟩ hPD hS 2 7 rfl rfl rfl [2, 3] [0, 1, 4, 5, 6, 7] [0, 1, 6, 7, 2, 3, 4, 5] (wN := (wX9 G h0 a0 wk f0 A0 ++ (wX7 G (a0 0) a1 f1 A1 ++ (wX1 G (a0 1) a2 f2 A2)))) rfl rfl rfl rfl rfl hl.1 (Nat.le_of_ble_eq_true rfl) dX9_alibis_162 (fun H locs hPD hS => ?_)
    refine lv_isub hx hb dX9_alibis_165 ?_
    refine kVI (As := [.int (f7_byteAt f1 A1 (4 * l5)), .int (p3 - (f7_byteAt f1 A1 ((4 * l5) + 1)))]) (rest := []) C0 (kt_X9_reaches l G h0 a0 wk a2 f0 A0 f2 A2 (f7_byteAt f1 A1 (4 * l5)) (p3 - (f7_byteAt f1 A1 ((4 * l5) + 1)))) gi_V_X9_274_X9_reaches (n := 2) rfl (by decide +kernel) rfl ⟨rfl, rfl, Nat.le_of_ble_eq_true rfl, Nat.le_of_ble_eq_true rfl⟩ hPD hS 0 9 rfl rfl rfl [0, 1, 4, 5, 6, 7] [2, 3] [2, 3, 0, 1, 4, 5, 6, 7] (wN := (wX9 G h0 a0 wk f0 A0 ++ (wX7 G (a0 0) a1 f1 A1 ++ (wX1 G (a0 1) a2 f2 A2)))) rfl rfl rfl rfl rfl hl.1 (Nat.le_of_ble_eq_true rfl) dX9_alibis_166 (fun H locs hPD hS => ?_)
    obtain ⟨x_2, ex_2, h⟩ := lvl h
    refine lv_nm ex_2 ?_
    refine lv_istore (lv' := [(6, .int x_2), (0, .ref h0), (1, .int p1), (2, .int p2), (3, .int p3), (4, .int l4), (5, .int l5)]) hx hb dX9_alibis_169 hl (by decide) rfl (fun ls hl => ?_)
    refine lv_aload_n hx hb dX9_alibis_171 rfl (lv_at hl 1 rfl) ?_
    refine lv_aload_n hx hb dX9_alibis_172 rfl (lv_at hl 1 rfl) ?_
    refine va_get (D := G.1) (ci := 9) (v := .ref (a0 0)) (C := RX9) (T := TX9) (N := 15) hx hb hts inlX9 hown hK hPD.1 0 rfl rfl 0 (by decide) (hts _ gw_366) (fun _ h9 => h9) rfl dX9_alibis_173 ?_
    refine lv_iconst (v := 4) hx hb dX9_alibis_176 (by decide) ?_
    refine lv_iload hx hb dX9_alibis_177 (lv_at hl 6 rfl) ?_
    refine lv_imul hx hb dX9_alibis_179 ?_
    refine lv_iconst (v := 2) hx hb dX9_alibis_180 (by decide) ?_
    refine lv_iadd hx hb dX9_alibis_181 ?_
    refine kVI (As := [.int ((4 * l5) + 2)]) (rest := [.ref h0]) C0 (kt_X7_byteAt l G (a0 0) a1 f1 A1 ((4 * l5) + 2)) gi_V_X9_224_X7_byteAt (n := 1) rfl (by decide +kernel) rfl ⟨rfl, rfl, Nat.le_of_ble_eq_true rfl, Nat.le_of_ble_eq_true rfl⟩ hPD hS 2 7 rfl rfl rfl [2, 3] [0, 1, 4, 5, 6, 7] [0, 1, 6, 7, 2, 3, 4, 5] (wN := (wX9 G h0 a0 wk f0 A0 ++ (wX7 G (a0 0) a1 f1 A1 ++ (wX1 G (a0 1) a2 f2 A2)))) rfl rfl rfl rfl rfl hl.1 (Nat.le_of_ble_eq_true rfl) dX9_alibis_182 (fun H locs hPD hS => ?_)
    refine lv_aload_n hx hb dX9_alibis_185 rfl (lv_at hl 1 rfl) ?_
    refine va_get (D := G.1) (ci := 9) (v := .ref (a0 0)) (C := RX9) (T := TX9) (N := 15) hx hb hts inlX9 hown hK hPD.1 0 rfl rfl 0 (by decide) (hts _ gw_366) (fun _ h9 => h9) rfl dX9_alibis_186 ?_
    refine lv_iconst (v := 4) hx hb dX9_alibis_189 (by decide) ?_
    refine lv_iload hx hb dX9_alibis_190 (lv_at hl 6 rfl) ?_
    refine lv_imul hx hb dX9_alibis_192 ?_
    refine lv_iconst (v := 3) hx hb dX9_alibis_193 (by decide) ?_
    refine lv_iadd hx hb dX9_alibis_194 ?_
    refine kVI (As := [.int ((4 * l5) + 3)]) (rest := [.int (f7_byteAt f1 A1 ((4 * l5) + 2)), .ref h0]) C0 (kt_X7_byteAt l G (a0 0) a1 f1 A1 ((4 * l5) + 3)) gi_V_X9_224_X7_byteAt (n := 1) rfl (by decide +kernel) rfl ⟨rfl, rfl, Nat.le_of_ble_eq_true rfl, Nat.le_of_ble_eq_true rfl⟩ hPD hS 2 7 rfl rfl rfl [2, 3] [0, 1, 4, 5, 6, 7] [0, 1, 6, 7, 2, 3, 4, 5] (wN := (wX9 G h0 a0 wk f0 A0 ++ (wX7 G (a0 0) a1 f1 A1 ++ (wX1 G (a0 1) a2 f2 A2)))) rfl rfl rfl rfl rfl hl.1 (Nat.le_of_ble_eq_true rfl) dX9_alibis_195 (fun H locs hPD hS => ?_)
    refine lv_iload_n hx hb dX9_alibis_198 rfl (lv_at hl 4 rfl) ?_
    refine lv_isub hx hb dX9_alibis_199 ?_
    refine kVI (As := [.int (f7_byteAt f1 A1 ((4 * l5) + 2)), .int ((f7_byteAt f1 A1 ((4 * l5) + 3)) - p3)]) (rest := []) C0 (kt_X9_reaches l G h0 a0 wk a2 f0 A0 f2 A2 (f7_byteAt f1 A1 ((4 * l5) + 2)) ((f7_byteAt f1 A1 ((4 * l5) + 3)) - p3)) gi_V_X9_274_X9_reaches (n := 2) rfl (by decide +kernel) rfl ⟨rfl, rfl, Nat.le_of_ble_eq_true rfl, Nat.le_of_ble_eq_true rfl⟩ hPD hS 0 9 rfl rfl rfl [0, 1, 4, 5, 6, 7] [2, 3] [2, 3, 0, 1, 4, 5, 6, 7] (wN := (wX9 G h0 a0 wk f0 A0 ++ (wX7 G (a0 0) a1 f1 A1 ++ (wX1 G (a0 1) a2 f2 A2)))) rfl rfl rfl rfl rfl hl.1 (Nat.le_of_ble_eq_true rfl) dX9_alibis_200 (fun H locs hPD hS => ?_)
    obtain ⟨x_3, ex_3, h⟩ := lvl h
    refine lv_nm ex_3 ?_
    refine lv_istore (lv' := [(7, .int x_3), (6, .int x_2), (0, .ref h0), (1, .int p1), (2, .int p2), (3, .int p3), (4, .int l4), (5, .int l5)]) hx hb dX9_alibis_203 hl (by decide) rfl (fun ls hl => ?_)
    refine lv_iload hx hb dX9_alibis_205 (lv_at hl 1 rfl) ?_
    refine lv_if_eq (tgt := 224) hx hb dX9_alibis_207 (by decide) (fun cc1 => ?_) (fun cc1 => ?_)
    · have h := (if_pos cc1).symm.trans h
      refine lv_iinc (v := l5 + 1) (lv' := [(5, .int (l5 + 1)), (7, .int x_3), (6, .int x_2), (0, .ref h0), (1, .int p1), (2, .int p2), (3, .int p3), (4, .int l4)]) hx hb dX9_alibis_224 hl (k := 7) rfl rfl (by decide) rfl (fun ls hl => ?_)
      refine lv_goto (tgt := 133) hx hb dX9_alibis_227 (by decide) ?_
      exact hk133 f1 A2 l4 (l5 + 1) h _ _ _ hPD hS (lv_sub hl [3, 4, 5, 6, 7, 0] rfl)
    · have h := (if_neg cc1).symm.trans h
      refine lv_iload hx hb dX9_alibis_210 (lv_at hl 0 rfl) ?_
      refine lv_if_eq (tgt := 224) hx hb dX9_alibis_212 (by decide) (fun cc1 => ?_) (fun cc1 => ?_)
      · have h := (if_pos cc1).symm.trans h
        refine lv_iinc (v := l5 + 1) (lv' := [(5, .int (l5 + 1)), (7, .int x_3), (6, .int x_2), (0, .ref h0), (1, .int p1), (2, .int p2), (3, .int p3), (4, .int l4)]) hx hb dX9_alibis_224 hl (k := 7) rfl rfl (by decide) rfl (fun ls hl => ?_)
        refine lv_goto (tgt := 133) hx hb dX9_alibis_227 (by decide) ?_
        exact hk133 f1 A2 l4 (l5 + 1) h _ _ _ hPD hS (lv_sub hl [3, 4, 5, 6, 7, 0] rfl)
      · have h := (if_neg cc1).symm.trans h
        refine lv_iload hx hb dX9_alibis_215 (lv_at hl 6 rfl) ?_
        refine lv_iconst (v := 1) hx hb dX9_alibis_217 (by decide) ?_
        refine lv_iload hx hb dX9_alibis_218 (lv_at hl 7 rfl) ?_
        refine lv_ishl hx hb dX9_alibis_220 ?_
        refine lv_ior hx hb dX9_alibis_221 ?_
        refine lv_istore (lv' := [(4, .int (l4 ||| (shl 1 l5))), (7, .int x_3), (6, .int x_2), (0, .ref h0), (1, .int p1), (2, .int p2), (3, .int p3), (5, .int l5)]) hx hb dX9_alibis_222 hl (by decide) rfl (fun ls hl => ?_)
        refine lv_iinc (v := l5 + 1) (lv' := [(5, .int (l5 + 1)), (4, .int (l4 ||| (shl 1 l5))), (7, .int x_3), (6, .int x_2), (0, .ref h0), (1, .int p1), (2, .int p2), (3, .int p3)]) hx hb dX9_alibis_224 hl (k := 7) rfl rfl (by decide) rfl (fun ls hl => ?_)
        refine lv_goto (tgt := 133) hx hb dX9_alibis_227 (by decide) ?_
        exact hk133 f1 A2 (l4 ||| (shl 1 l5)) (l5 + 1) h _ _ _ hPD hS (lv_sub hl [4, 5, 6, 7, 1, 0] rfl)
set_option maxRecDepth 100000 in
set_option maxHeartbeats 4000000 in
theorem ww_f9_alibis_l133  (C0 : Cx cX9_alibis 8 (some .int) RX9 p s m args meth c G DA) {h0 : Nat} {a0 : Nat → Nat} {wk : Option Nat} {a1 : Nat → Nat} {a2 : Nat → Nat} {f0 : Nat → Int32} {A0 : Nat → Nat → Int32} {A1 : Nat → Nat → Int32} {f2 : Nat → Int32} {p1 : Int32} {p2 : Int32} {p3 : Int32}   {res : Int32 × (Nat → Int32) × (Nat → Nat → Int32)}  : ∀ (n : Nat) (f1 : Nat → Int32) (A2 : Nat → Nat → Int32) (l4 : Int32) (l5 : Int32), f9_alibis_l133 f0 A0 A1 f2 p1 p2 p3  n f1 A2 l4 l5 = some res → ∀ (H : Heap) (locs : List Loc) (ls : Array Slot), WD G DA (wX9 G h0 a0 wk f0 A0 ++ (wX7 G (a0 0) a1 f1 A1 ++ (wX1 G (a0 1) a2 f2 A2))) H → va_S DA s.heap H locs → lv_has ls 8 [(0, .ref h0), (1, .int p1), (2, .int p2), (3, .int p3), (4, .int l4), (5, .int l5)] → W p l e rmX9_alibis s m args below meth c H locs 0 0 (MQ below (QI G DA res.1 (wX9 G h0 a0 wk f0 A0 ++ (wX7 G (a0 0) a1 res.2.1 A1 ++ (wX1 G (a0 1) a2 f2 res.2.2)))) args s 0 0 DA) (F0 m 133 ls []) := by
  intro n
  induction n with
  | zero => intro f1 A2 l4 l5 h; cases h
  | succ n ih => intro f1 A2 l4 l5 h; exact ww_f9_alibis_b133 C0  ih f1 A2 l4 l5 h
set_option maxRecDepth 100000 in
set_option maxHeartbeats 4000000 in
theorem ww_f9_alibis_b60  (C0 : Cx cX9_alibis 8 (some .int) RX9 p s m args meth c G DA) {h0 : Nat} {a0 : Nat → Nat} {wk : Option Nat} {a1 : Nat → Nat} {a2 : Nat → Nat} {f0 : Nat → Int32} {A0 : Nat → Nat → Int32} {A1 : Nat → Nat → Int32} {f2 : Nat → Int32} {p1 : Int32} {p2 : Int32} {p3 : Int32}  {k60 : (Nat → Int32) → (Nat → Nat → Int32) → Int32 → Option (Int32 × (Nat → Int32) × (Nat → Nat → Int32))} {res : Int32 × (Nat → Int32) × (Nat → Nat → Int32)}  (hk60 : ∀ (f1 : Nat → Int32) (A2 : Nat → Nat → Int32) (l4 : Int32), k60 f1 A2 l4 = some res → ∀ (H : Heap) (locs : List Loc) (ls : Array Slot), WD G DA (wX9 G h0 a0 wk f0 A0 ++ (wX7 G (a0 0) a1 f1 A1 ++ (wX1 G (a0 1) a2 f2 A2))) H → va_S DA s.heap H locs → lv_has ls 8 [(0, .ref h0), (1, .int p1), (2, .int p2), (3, .int p3), (4, .int l4)] → W p l e rmX9_alibis s m args below meth c H locs 0 0 (MQ below (QI G DA res.1 (wX9 G h0 a0 wk f0 A0 ++ (wX7 G (a0 0) a1 res.2.1 A1 ++ (wX1 G (a0 1) a2 f2 res.2.2)))) args s 0 0 DA) (F0 m 60 ls [])) : ∀ (f1 : Nat → Int32) (A2 : Nat → Nat → Int32) (l4 : Int32), f9_alibis_b60 f0 A0 A1 f2 p1 p2 p3  k60 f1 A2 l4 = some res → ∀ (H : Heap) (locs : List Loc) (ls : Array Slot), WD G DA (wX9 G h0 a0 wk f0 A0 ++ (wX7 G (a0 0) a1 f1 A1 ++ (wX1 G (a0 1) a2 f2 A2))) H → va_S DA s.heap H locs → lv_has ls 8 [(0, .ref h0), (1, .int p1), (2, .int p2), (3, .int p3), (4, .int l4)] → W p l e rmX9_alibis s m args below meth c H locs 0 0 (MQ below (QI G DA res.1 (wX9 G h0 a0 wk f0 A0 ++ (wX7 G (a0 0) a1 res.2.1 A1 ++ (wX1 G (a0 1) a2 f2 res.2.2)))) args s 0 0 DA) (F0 m 60 ls []) := by
  obtain ⟨hx, hb, hml, hown, hts⟩ := C0.1
  have hK := C0.2.2.2.1
  intro f1 A2 l4 h _ _ _ hPD hS hl
  unfold f9_alibis_b60 at h
  refine lv_iload hx hb dX9_alibis_60 (lv_at hl 4 rfl) ?_
  refine lv_iload_n hx hb dX9_alibis_62 rfl (lv_at hl 1 rfl) ?_
  refine lv_icmp_ge (tgt := 119) hx hb dX9_alibis_63 (by decide) (fun cc1 => ?_) (fun cc1 => ?_)
  · have h := (if_pos cc1).symm.trans h
    refine lv_aload_n hx hb dX9_alibis_119 rfl (lv_at hl 0 rfl) ?_
    refine va_get (D := G.1) (ci := 9) (v := .ref (a0 1)) (C := RX9) (T := TX9) (N := 15) hx hb hts inlX9 hown hK hPD.1 0 rfl rfl 1 (by decide) (hts _ gw_354) (fun _ h9 => h9) rfl dX9_alibis_120 ?_
    refine lv_iload_n hx hb dX9_alibis_123 rfl (lv_at hl 2 rfl) ?_
    obtain ⟨q_1, hq_1, h⟩ := ob2 h
    refine kVV (As := [.int p2]) (rest := []) C0 (kt_X1_measure l G (a0 1) a2 f2 A2 p2 hq_1) gi_V_X9_230_X1_measure (n := 1) rfl (by decide +kernel) rfl ⟨rfl, rfl, Nat.le_of_ble_eq_true rfl, Nat.le_of_ble_eq_true rfl⟩ hPD hS 4 1 rfl rfl rfl [4, 5, 6, 7] [0, 1, 2, 3] [0, 1, 2, 3, 4, 5, 6, 7] (wN := (wX9 G h0 a0 wk f0 A0 ++ (wX7 G (a0 0) a1 f1 A1 ++ (wX1 G (a0 1) a2 f2 q_1)))) rfl rfl rfl rfl rfl hl.1 (Nat.le_of_ble_eq_true rfl) dX9_alibis_124 (fun H locs hPD hS => ?_)
    refine lv_iconst (v := 0) hx hb dX9_alibis_127 (by decide) ?_
    refine lv_istore (lv' := [(4, .int 0), (0, .ref h0), (1, .int p1), (2, .int p2), (3, .int p3)]) hx hb dX9_alibis_128 hl (by decide) rfl (fun ls hl => ?_)
    refine lv_iconst (v := 0) hx hb dX9_alibis_130 (by decide) ?_
    refine lv_istore (lv' := [(5, .int 0), (4, .int 0), (0, .ref h0), (1, .int p1), (2, .int p2), (3, .int p3)]) hx hb dX9_alibis_131 hl (by decide) rfl (fun ls hl => ?_)
    exact ww_f9_alibis_l133 C0 NF f1 q_1 0 0 h _ _ _ hPD hS (lv_sub hl [2, 3, 4, 5, 1, 0] rfl)
  · have h := (if_neg cc1).symm.trans h
    refine lv_aload_n hx hb dX9_alibis_66 rfl (lv_at hl 0 rfl) ?_
    refine va_get (D := G.1) (ci := 9) (v := .ref (a0 1)) (C := RX9) (T := TX9) (N := 15) hx hb hts inlX9 hown hK hPD.1 0 rfl rfl 1 (by decide) (hts _ gw_354) (fun _ h9 => h9) rfl dX9_alibis_67 ?_
    refine lv_aload_n hx hb dX9_alibis_70 rfl (lv_at hl 0 rfl) ?_
    refine va_get (D := G.1) (ci := 9) (v := .ref (a0 0)) (C := RX9) (T := TX9) (N := 15) hx hb hts inlX9 hown hK hPD.1 0 rfl rfl 0 (by decide) (hts _ gw_366) (fun _ h9 => h9) rfl dX9_alibis_71 ?_
    refine lv_iconst (v := 4) hx hb dX9_alibis_74 (by decide) ?_
    refine lv_iload hx hb dX9_alibis_75 (lv_at hl 4 rfl) ?_
    refine lv_imul hx hb dX9_alibis_77 ?_
    refine kVI (As := [.int (4 * l4)]) (rest := [.ref (a0 1)]) C0 (kt_X7_byteAt l G (a0 0) a1 f1 A1 (4 * l4)) gi_V_X9_224_X7_byteAt (n := 1) rfl (by decide +kernel) rfl ⟨rfl, rfl, Nat.le_of_ble_eq_true rfl, Nat.le_of_ble_eq_true rfl⟩ hPD hS 2 7 rfl rfl rfl [2, 3] [0, 1, 4, 5, 6, 7] [0, 1, 6, 7, 2, 3, 4, 5] (wN := (wX9 G h0 a0 wk f0 A0 ++ (wX7 G (a0 0) a1 f1 A1 ++ (wX1 G (a0 1) a2 f2 A2)))) rfl rfl rfl rfl rfl hl.1 (Nat.le_of_ble_eq_true rfl) dX9_alibis_78 (fun H locs hPD hS => ?_)
    refine kVI (As := [.int (f7_byteAt f1 A1 (4 * l4))]) (rest := []) C0 (kt_X1_isTold l G (a0 1) a2 f2 A2 (f7_byteAt f1 A1 (4 * l4))) gi_V_X9_108_X1_isTold (n := 1) rfl (by decide +kernel) rfl ⟨rfl, rfl, Nat.le_of_ble_eq_true rfl, Nat.le_of_ble_eq_true rfl⟩ hPD hS 4 1 rfl rfl rfl [4, 5, 6, 7] [0, 1, 2, 3] [0, 1, 2, 3, 4, 5, 6, 7] (wN := (wX9 G h0 a0 wk f0 A0 ++ (wX7 G (a0 0) a1 f1 A1 ++ (wX1 G (a0 1) a2 f2 A2)))) rfl rfl rfl rfl rfl hl.1 (Nat.le_of_ble_eq_true rfl) dX9_alibis_81 (fun H locs hPD hS => ?_)
    refine lv_if_eq (tgt := 110) hx hb dX9_alibis_84 (by decide) (fun cc1 => ?_) (fun cc1 => ?_)
    · have h := (if_pos cc1).symm.trans h
      refine lv_bipush (v := (-2)) hx hb dX9_alibis_110 (by decide) ?_
      obtain rfl := Option.some.inj h
      exact eI C0 hPD.1 hPD.2 hS rfl dX9_alibis_112
    · have h := (if_neg cc1).symm.trans h
      refine lv_aload_n hx hb dX9_alibis_87 rfl (lv_at hl 0 rfl) ?_
      refine va_get (D := G.1) (ci := 9) (v := .ref (a0 1)) (C := RX9) (T := TX9) (N := 15) hx hb hts inlX9 hown hK hPD.1 0 rfl rfl 1 (by decide) (hts _ gw_354) (fun _ h9 => h9) rfl dX9_alibis_88 ?_
      refine lv_aload_n hx hb dX9_alibis_91 rfl (lv_at hl 0 rfl) ?_
      refine va_get (D := G.1) (ci := 9) (v := .ref (a0 0)) (C := RX9) (T := TX9) (N := 15) hx hb hts inlX9 hown hK hPD.1 0 rfl rfl 0 (by decide) (hts _ gw_366) (fun _ h9 => h9) rfl dX9_alibis_92 ?_
      refine lv_iconst (v := 4) hx hb dX9_alibis_95 (by decide) ?_
      refine lv_iload hx hb dX9_alibis_96 (lv_at hl 4 rfl) ?_
      refine lv_imul hx hb dX9_alibis_98 ?_
      refine lv_iconst (v := 2) hx hb dX9_alibis_99 (by decide) ?_
      refine lv_iadd hx hb dX9_alibis_100 ?_
      refine kVI (As := [.int ((4 * l4) + 2)]) (rest := [.ref (a0 1)]) C0 (kt_X7_byteAt l G (a0 0) a1 f1 A1 ((4 * l4) + 2)) gi_V_X9_224_X7_byteAt (n := 1) rfl (by decide +kernel) rfl ⟨rfl, rfl, Nat.le_of_ble_eq_true rfl, Nat.le_of_ble_eq_true rfl⟩ hPD hS 2 7 rfl rfl rfl [2, 3] [0, 1, 4, 5, 6, 7] [0, 1, 6, 7, 2, 3, 4, 5] (wN := (wX9 G h0 a0 wk f0 A0 ++ (wX7 G (a0 0) a1 f1 A1 ++ (wX1 G (a0 1) a2 f2 A2)))) rfl rfl rfl rfl rfl hl.1 (Nat.le_of_ble_eq_true rfl) dX9_alibis_101 (fun H locs hPD hS => ?_)
      refine kVI (As := [.int (f7_byteAt f1 A1 ((4 * l4) + 2))]) (rest := []) C0 (kt_X1_isTold l G (a0 1) a2 f2 A2 (f7_byteAt f1 A1 ((4 * l4) + 2))) gi_V_X9_108_X1_isTold (n := 1) rfl (by decide +kernel) rfl ⟨rfl, rfl, Nat.le_of_ble_eq_true rfl, Nat.le_of_ble_eq_true rfl⟩ hPD hS 4 1 rfl rfl rfl [4, 5, 6, 7] [0, 1, 2, 3] [0, 1, 2, 3, 4, 5, 6, 7] (wN := (wX9 G h0 a0 wk f0 A0 ++ (wX7 G (a0 0) a1 f1 A1 ++ (wX1 G (a0 1) a2 f2 A2)))) rfl rfl rfl rfl rfl hl.1 (Nat.le_of_ble_eq_true rfl) dX9_alibis_104 (fun H locs hPD hS => ?_)
      refine lv_if_ne (tgt := 113) hx hb dX9_alibis_107 (by decide) (fun cc1 => ?_) (fun cc1 => ?_)
      · have h := (if_neg cc1).symm.trans h
        refine lv_iinc (v := l4 + 1) (lv' := [(4, .int (l4 + 1)), (0, .ref h0), (1, .int p1), (2, .int p2), (3, .int p3)]) hx hb dX9_alibis_113 hl (k := 4) rfl rfl (by decide) rfl (fun ls hl => ?_)
        refine lv_goto (tgt := 60) hx hb dX9_alibis_116 (by decide) ?_
        exact hk60 f1 A2 (l4 + 1) h _ _ _ hPD hS (lv_sub hl [1, 2, 3, 4, 0] rfl)
      · have h := (if_pos cc1).symm.trans h
        refine lv_bipush (v := (-2)) hx hb dX9_alibis_110 (by decide) ?_
        obtain rfl := Option.some.inj h
        exact eI C0 hPD.1 hPD.2 hS rfl dX9_alibis_112
set_option maxRecDepth 100000 in
set_option maxHeartbeats 4000000 in
theorem ww_f9_alibis_l60  (C0 : Cx cX9_alibis 8 (some .int) RX9 p s m args meth c G DA) {h0 : Nat} {a0 : Nat → Nat} {wk : Option Nat} {a1 : Nat → Nat} {a2 : Nat → Nat} {f0 : Nat → Int32} {A0 : Nat → Nat → Int32} {A1 : Nat → Nat → Int32} {f2 : Nat → Int32} {p1 : Int32} {p2 : Int32} {p3 : Int32}   {res : Int32 × (Nat → Int32) × (Nat → Nat → Int32)}  : ∀ (n : Nat) (f1 : Nat → Int32) (A2 : Nat → Nat → Int32) (l4 : Int32), f9_alibis_l60 f0 A0 A1 f2 p1 p2 p3  n f1 A2 l4 = some res → ∀ (H : Heap) (locs : List Loc) (ls : Array Slot), WD G DA (wX9 G h0 a0 wk f0 A0 ++ (wX7 G (a0 0) a1 f1 A1 ++ (wX1 G (a0 1) a2 f2 A2))) H → va_S DA s.heap H locs → lv_has ls 8 [(0, .ref h0), (1, .int p1), (2, .int p2), (3, .int p3), (4, .int l4)] → W p l e rmX9_alibis s m args below meth c H locs 0 0 (MQ below (QI G DA res.1 (wX9 G h0 a0 wk f0 A0 ++ (wX7 G (a0 0) a1 res.2.1 A1 ++ (wX1 G (a0 1) a2 f2 res.2.2)))) args s 0 0 DA) (F0 m 60 ls []) := by
  intro n
  induction n with
  | zero => intro f1 A2 l4 h; cases h
  | succ n ih => intro f1 A2 l4 h; exact ww_f9_alibis_b60 C0  ih f1 A2 l4 h
set_option maxRecDepth 100000 in
set_option maxHeartbeats 4000000 in
theorem kt_X9_alibis (l : Launch) (G : Gp) (h0 : Nat) (a0 : Nat → Nat) (wk : Option Nat) (a1 : Nat → Nat) (a2 : Nat → Nat) (f0 : Nat → Int32) (A0 : Nat → Nat → Int32) (f1 : Nat → Int32) (A1 : Nat → Nat → Int32) (f2 : Nat → Int32) (A2 : Nat → Nat → Int32) (p1 : Int32) (p2 : Int32) (p3 : Int32) : ∀ {r : Int32 × (Nat → Int32) × (Nat → Nat → Int32)}, f9_alibis f0 A0 f1 A1 f2 A2 p1 p2 p3 = some r → CtrI l yX9_alibis cX9_alibis 8 (some .int) rmX9_alibis G [.ref h0, .int p1, .int p2, .int p3] (wX9 G h0 a0 wk f0 A0 ++ (wX7 G (a0 0) a1 f1 A1 ++ (wX1 G (a0 1) a2 f2 A2))) r.1 (wX9 G h0 a0 wk f0 A0 ++ (wX7 G (a0 0) a1 r.2.1 A1 ++ (wX1 G (a0 1) a2 f2 r.2.2))) := by
  intro res h
  refine ctrI_of (cc := cX9_alibis) (maxL := 8) (ret := (some .int)) (by decide +kernel) rfl (Nat.le_of_ble_eq_true rfl) (fun p e s m below meth c DA C0 hP hD ls hl => ?_)
  have hPD : WD G DA (wX9 G h0 a0 wk f0 A0 ++ (wX7 G (a0 0) a1 f1 A1 ++ (wX1 G (a0 1) a2 f2 A2))) s.heap := ⟨hP, hD⟩
  have hS : va_S DA s.heap s.heap [] := va_S.rf
  have hl : lv_has ls 8 [(0, .ref h0), (1, .int p1), (2, .int p2), (3, .int p3)] := hl
  obtain ⟨hx, hb, hml, hown, hts⟩ := C0.1
  have hK := C0.2.2.2.1
  unfold f9_alibis at h
  refine lv_iload_n hx hb dX9_alibis_0 rfl (lv_at hl 1 rfl) ?_
  refine lv_iconst (v := 1) hx hb dX9_alibis_1 (by decide) ?_
  refine lv_bipush (v := 10) hx hb dX9_alibis_2 (by decide) ?_
  refine kSI (As := [.int p1, .int 1, .int 10]) (rest := []) C0 (kt_X9_within l G  p1 1 10) gi_S_X9_90_X9_within (n := 3) rfl (by decide +kernel) ⟨rfl, rfl, Nat.le_of_ble_eq_true rfl, Nat.le_of_ble_eq_true rfl⟩ hPD hS [] [0, 1, 2, 3, 4, 5, 6, 7] [0, 1, 2, 3, 4, 5, 6, 7] (wN := (wX9 G h0 a0 wk f0 A0 ++ (wX7 G (a0 0) a1 f1 A1 ++ (wX1 G (a0 1) a2 f2 A2)))) rfl rfl rfl rfl rfl hl.1 (Nat.le_of_ble_eq_true rfl) dX9_alibis_4 (fun H locs hPD hS => ?_)
  refine lv_if_eq (tgt := 45) hx hb dX9_alibis_7 (by decide) (fun cc1 => ?_) (fun cc1 => ?_)
  · have h := (if_pos cc1).symm.trans h
    refine lv_iconst (v := (-1)) hx hb dX9_alibis_45 (by decide) ?_
    obtain rfl := Option.some.inj h
    exact eI C0 hPD.1 hPD.2 hS rfl dX9_alibis_46
  · have h := (if_neg cc1).symm.trans h
    refine lv_aload_n hx hb dX9_alibis_10 rfl (lv_at hl 0 rfl) ?_
    refine va_get (D := G.1) (ci := 9) (v := .ref (a0 1)) (C := RX9) (T := TX9) (N := 15) hx hb hts inlX9 hown hK hPD.1 0 rfl rfl 1 (by decide) (hts _ gw_354) (fun _ h9 => h9) rfl dX9_alibis_11 ?_
    refine lv_iload_n hx hb dX9_alibis_14 rfl (lv_at hl 2 rfl) ?_
    refine kVI (As := [.int p2]) (rest := []) C0 (kt_X1_isTold l G (a0 1) a2 f2 A2 p2) gi_V_X9_108_X1_isTold (n := 1) rfl (by decide +kernel) rfl ⟨rfl, rfl, Nat.le_of_ble_eq_true rfl, Nat.le_of_ble_eq_true rfl⟩ hPD hS 4 1 rfl rfl rfl [4, 5, 6, 7] [0, 1, 2, 3] [0, 1, 2, 3, 4, 5, 6, 7] (wN := (wX9 G h0 a0 wk f0 A0 ++ (wX7 G (a0 0) a1 f1 A1 ++ (wX1 G (a0 1) a2 f2 A2)))) rfl rfl rfl rfl rfl hl.1 (Nat.le_of_ble_eq_true rfl) dX9_alibis_15 (fun H locs hPD hS => ?_)
    refine lv_if_eq (tgt := 45) hx hb dX9_alibis_18 (by decide) (fun cc1 => ?_) (fun cc1 => ?_)
    · have h := (if_pos cc1).symm.trans h
      refine lv_iconst (v := (-1)) hx hb dX9_alibis_45 (by decide) ?_
      obtain rfl := Option.some.inj h
      exact eI C0 hPD.1 hPD.2 hS rfl dX9_alibis_46
    · have h := (if_neg cc1).symm.trans h
      refine lv_iload_n hx hb dX9_alibis_21 rfl (lv_at hl 3 rfl) ?_
      refine lv_iconst (v := 0) hx hb dX9_alibis_22 (by decide) ?_
      refine lv_sipush (v := 255) hx hb dX9_alibis_23 (by decide) ?_
      refine kSI (As := [.int p3, .int 0, .int 255]) (rest := []) C0 (kt_X9_within l G  p3 0 255) gi_S_X9_90_X9_within (n := 3) rfl (by decide +kernel) ⟨rfl, rfl, Nat.le_of_ble_eq_true rfl, Nat.le_of_ble_eq_true rfl⟩ hPD hS [] [0, 1, 2, 3, 4, 5, 6, 7] [0, 1, 2, 3, 4, 5, 6, 7] (wN := (wX9 G h0 a0 wk f0 A0 ++ (wX7 G (a0 0) a1 f1 A1 ++ (wX1 G (a0 1) a2 f2 A2)))) rfl rfl rfl rfl rfl hl.1 (Nat.le_of_ble_eq_true rfl) dX9_alibis_26 (fun H locs hPD hS => ?_)
      refine lv_if_eq (tgt := 45) hx hb dX9_alibis_29 (by decide) (fun cc1 => ?_) (fun cc1 => ?_)
      · have h := (if_pos cc1).symm.trans h
        refine lv_iconst (v := (-1)) hx hb dX9_alibis_45 (by decide) ?_
        obtain rfl := Option.some.inj h
        exact eI C0 hPD.1 hPD.2 hS rfl dX9_alibis_46
      · have h := (if_neg cc1).symm.trans h
        refine lv_aload_n hx hb dX9_alibis_32 rfl (lv_at hl 0 rfl) ?_
        refine va_get (D := G.1) (ci := 9) (v := .ref (a0 0)) (C := RX9) (T := TX9) (N := 15) hx hb hts inlX9 hown hK hPD.1 0 rfl rfl 0 (by decide) (hts _ gw_366) (fun _ h9 => h9) rfl dX9_alibis_33 ?_
        refine lv_iconst (v := 4) hx hb dX9_alibis_36 (by decide) ?_
        refine lv_iload_n hx hb dX9_alibis_37 rfl (lv_at hl 1 rfl) ?_
        refine lv_imul hx hb dX9_alibis_38 ?_
        refine kVI (As := [.int (4 * p1)]) (rest := []) C0 (kt_X7_holds l G (a0 0) a1 f1 A1 (4 * p1)) gi_V_X9_132_X7_holds (n := 1) rfl (by decide +kernel) rfl ⟨rfl, rfl, Nat.le_of_ble_eq_true rfl, Nat.le_of_ble_eq_true rfl⟩ hPD hS 2 7 rfl rfl rfl [2, 3] [0, 1, 4, 5, 6, 7] [0, 1, 6, 7, 2, 3, 4, 5] (wN := (wX9 G h0 a0 wk f0 A0 ++ (wX7 G (a0 0) a1 f1 A1 ++ (wX1 G (a0 1) a2 f2 A2)))) rfl rfl rfl rfl rfl hl.1 (Nat.le_of_ble_eq_true rfl) dX9_alibis_39 (fun H locs hPD hS => ?_)
        refine lv_if_ne (tgt := 47) hx hb dX9_alibis_42 (by decide) (fun cc1 => ?_) (fun cc1 => ?_)
        · have h := (if_neg cc1).symm.trans h
          refine lv_aload_n hx hb dX9_alibis_47 rfl (lv_at hl 0 rfl) ?_
          refine va_get (D := G.1) (ci := 9) (v := .ref (a0 0)) (C := RX9) (T := TX9) (N := 15) hx hb hts inlX9 hown hK hPD.1 0 rfl rfl 0 (by decide) (hts _ gw_366) (fun _ h9 => h9) rfl dX9_alibis_48 ?_
          refine lv_iconst (v := 4) hx hb dX9_alibis_51 (by decide) ?_
          refine lv_iload_n hx hb dX9_alibis_52 rfl (lv_at hl 1 rfl) ?_
          refine lv_imul hx hb dX9_alibis_53 ?_
          refine kVV (As := [.int (4 * p1)]) (rest := []) C0 (kt_X7_open l G (a0 0) a1 f1 A1 (4 * p1)) gi_V_X9_135_X7_open (n := 1) rfl (by decide +kernel) rfl ⟨rfl, rfl, Nat.le_of_ble_eq_true rfl, Nat.le_of_ble_eq_true rfl⟩ hPD hS 2 7 rfl rfl rfl [2, 3] [0, 1, 4, 5, 6, 7] [0, 1, 6, 7, 2, 3, 4, 5] (wN := (wX9 G h0 a0 wk f0 A0 ++ (wX7 G (a0 0) a1 (f7_open f1 A1 (4 * p1)) A1 ++ (wX1 G (a0 1) a2 f2 A2)))) rfl rfl rfl rfl rfl hl.1 (Nat.le_of_ble_eq_true rfl) dX9_alibis_54 (fun H locs hPD hS => ?_)
          refine lv_iconst (v := 0) hx hb dX9_alibis_57 (by decide) ?_
          refine lv_istore (lv' := [(4, .int 0), (0, .ref h0), (1, .int p1), (2, .int p2), (3, .int p3)]) hx hb dX9_alibis_58 hl (by decide) rfl (fun ls hl => ?_)
          exact ww_f9_alibis_l60 C0 NF (f7_open f1 A1 (4 * p1)) A2 0 h _ _ _ hPD hS (lv_sub hl [1, 2, 3, 4, 0] rfl)
        · have h := (if_pos cc1).symm.trans h
          refine lv_iconst (v := (-1)) hx hb dX9_alibis_45 (by decide) ?_
          obtain rfl := Option.some.inj h
          exact eI C0 hPD.1 hPD.2 hS rfl dX9_alibis_46
abbrev rmX9_takesRanking : Room := { frames := 2, cells := 0, slots := 0, locals := 43 }
set_option maxRecDepth 100000 in
set_option maxHeartbeats 4000000 in
theorem ww_f9_takesRanking_b5  (C0 : Cx cX9_takesRanking 6 (some .boolean) RX9 p s m args meth c G DA) {h0 : Nat} {a0 : Nat → Nat} {wk : Option Nat} {a1 : Nat → Nat} {f0 : Nat → Int32} {f1 : Nat → Int32} {A1 : Nat → Nat → Int32} {p1 : Int32} {p2 : Int32}  {k5 : (Nat → Nat → Int32) → Int32 → Int32 → Option (Int32 × (Nat → Nat → Int32))} {res : Int32 × (Nat → Nat → Int32)}  (hk5 : ∀ (A0 : Nat → Nat → Int32) (l3 : Int32) (l4 : Int32), k5 A0 l3 l4 = some res → ∀ (H : Heap) (locs : List Loc) (ls : Array Slot), WD G DA (wX9 G h0 a0 wk f0 A0 ++ (wX7 G (a0 0) a1 f1 A1)) H → va_S DA s.heap H locs → lv_has ls 6 [(0, .ref h0), (1, .int p1), (2, .int p2), (3, .int l3), (4, .int l4)] → W p l e rmX9_takesRanking s m args below meth c H locs 0 0 (MQ below (QI G DA res.1 (wX9 G h0 a0 wk f0 res.2 ++ (wX7 G (a0 0) a1 f1 A1))) args s 0 0 DA) (F0 m 5 ls [])) : ∀ (A0 : Nat → Nat → Int32) (l3 : Int32) (l4 : Int32), f9_takesRanking_b5 f0 f1 A1 p1 p2  k5 A0 l3 l4 = some res → ∀ (H : Heap) (locs : List Loc) (ls : Array Slot), WD G DA (wX9 G h0 a0 wk f0 A0 ++ (wX7 G (a0 0) a1 f1 A1)) H → va_S DA s.heap H locs → lv_has ls 6 [(0, .ref h0), (1, .int p1), (2, .int p2), (3, .int l3), (4, .int l4)] → W p l e rmX9_takesRanking s m args below meth c H locs 0 0 (MQ below (QI G DA res.1 (wX9 G h0 a0 wk f0 res.2 ++ (wX7 G (a0 0) a1 f1 A1))) args s 0 0 DA) (F0 m 5 ls []) := by
  obtain ⟨hx, hb, hml, hown, hts⟩ := C0.1
  have hK := C0.2.2.2.1
  intro A0 l3 l4 h _ _ _ hPD hS hl
  unfold f9_takesRanking_b5 at h
  refine lv_iload hx hb dX9_takesRanking_5 (lv_at hl 4 rfl) ?_
  refine lv_iload_n hx hb dX9_takesRanking_7 rfl (lv_at hl 1 rfl) ?_
  refine lv_icmp_ge (tgt := 72) hx hb dX9_takesRanking_8 (by decide) (fun cc1 => ?_) (fun cc1 => ?_)
  · have h := (if_pos cc1).symm.trans h
    refine lv_iconst (v := 1) hx hb dX9_takesRanking_72 (by decide) ?_
    obtain rfl := Option.some.inj h
    exact eZ C0 hPD.1 hPD.2 hS rfl rfl dX9_takesRanking_73
  · have h := (if_neg cc1).symm.trans h
    refine lv_aload_n hx hb dX9_takesRanking_11 rfl (lv_at hl 0 rfl) ?_
    refine va_get (D := G.1) (ci := 9) (v := .ref (a0 0)) (C := RX9) (T := TX9) (N := 15) hx hb hts inlX9 hown hK hPD.1 0 rfl rfl 0 (by decide) (hts _ gw_366) (fun _ h9 => h9) rfl dX9_takesRanking_12 ?_
    refine lv_iload_n hx hb dX9_takesRanking_15 rfl (lv_at hl 2 rfl) ?_
    refine lv_iload_n hx hb dX9_takesRanking_16 rfl (lv_at hl 1 rfl) ?_
    refine lv_imul hx hb dX9_takesRanking_17 ?_
    refine lv_iload hx hb dX9_takesRanking_18 (lv_at hl 4 rfl) ?_
    refine lv_iadd hx hb dX9_takesRanking_20 ?_
    refine kVI (As := [.int ((p2 * p1) + l4)]) (rest := []) C0 (kt_X7_byteAt l G (a0 0) a1 f1 A1 ((p2 * p1) + l4)) gi_V_X9_224_X7_byteAt (n := 1) rfl (by decide +kernel) rfl ⟨rfl, rfl, Nat.le_of_ble_eq_true rfl, Nat.le_of_ble_eq_true rfl⟩ hPD hS 2 7 rfl rfl rfl [2, 3] [0, 1] [0, 1, 2, 3] (wN := (wX9 G h0 a0 wk f0 A0 ++ (wX7 G (a0 0) a1 f1 A1))) rfl rfl rfl rfl rfl hl.1 (Nat.le_of_ble_eq_true rfl) dX9_takesRanking_21 (fun H locs hPD hS => ?_)
    refine lv_istore (lv' := [(5, .int (f7_byteAt f1 A1 ((p2 * p1) + l4))), (0, .ref h0), (1, .int p1), (2, .int p2), (3, .int l3), (4, .int l4)]) hx hb dX9_takesRanking_24 hl (by decide) rfl (fun ls hl => ?_)
    refine lv_iload hx hb dX9_takesRanking_26 (lv_at hl 0 rfl) ?_
    refine lv_iload_n hx hb dX9_takesRanking_28 rfl (lv_at hl 2 rfl) ?_
    refine lv_icmp_ge (tgt := 41) hx hb dX9_takesRanking_29 (by decide) (fun cc1 => ?_) (fun cc1 => ?_)
    · have h := (if_pos cc1).symm.trans h
      refine lv_iconst (v := 0) hx hb dX9_takesRanking_41 (by decide) ?_
      obtain rfl := Option.some.inj h
      exact eZ C0 hPD.1 hPD.2 hS rfl rfl dX9_takesRanking_42
    · have h := (if_neg cc1).symm.trans h
      refine lv_iload_n hx hb dX9_takesRanking_32 rfl (lv_at hl 4 rfl) ?_
      refine lv_iload hx hb dX9_takesRanking_33 (lv_at hl 0 rfl) ?_
      refine kSI (As := [.int l3, .int (f7_byteAt f1 A1 ((p2 * p1) + l4))]) (rest := []) C0 (kt_X9_has l G  l3 (f7_byteAt f1 A1 ((p2 * p1) + l4))) gi_S_X9_290_X9_has (n := 2) rfl (by decide +kernel) ⟨rfl, rfl, Nat.le_of_ble_eq_true rfl, Nat.le_of_ble_eq_true rfl⟩ hPD hS [] [0, 1, 2, 3] [0, 1, 2, 3] (wN := (wX9 G h0 a0 wk f0 A0 ++ (wX7 G (a0 0) a1 f1 A1))) rfl rfl rfl rfl rfl hl.1 (Nat.le_of_ble_eq_true rfl) dX9_takesRanking_35 (fun H locs hPD hS => ?_)
      refine lv_if_eq (tgt := 43) hx hb dX9_takesRanking_38 (by decide) (fun cc1 => ?_) (fun cc1 => ?_)
      · have h := (if_pos cc1).symm.trans h
        refine lv_iload_n hx hb dX9_takesRanking_43 rfl (lv_at hl 4 rfl) ?_
        refine lv_iconst (v := 1) hx hb dX9_takesRanking_44 (by decide) ?_
        refine lv_iload hx hb dX9_takesRanking_45 (lv_at hl 0 rfl) ?_
        refine lv_ishl hx hb dX9_takesRanking_47 ?_
        refine lv_ior hx hb dX9_takesRanking_48 ?_
        obtain ⟨x_1, ex_1, h⟩ := lvl h
        refine lv_nm ex_1 ?_
        refine lv_istore_n (lv' := [(3, .int x_1), (5, .int (f7_byteAt f1 A1 ((p2 * p1) + l4))), (0, .ref h0), (1, .int p1), (2, .int p2), (4, .int l4)]) hx hb dX9_takesRanking_49 rfl hl (by decide) rfl (fun ls hl => ?_)
        refine lv_aload_n hx hb dX9_takesRanking_50 rfl (lv_at hl 2 rfl) ?_
        refine va_get (D := G.1) (ci := 9) (v := .ref (a0 9)) (C := RX9) (T := TX9) (N := 15) hx hb hts inlX9 hown hK hPD.1 0 rfl rfl 9 (by decide) (hts _ gw_503) (fun _ h9 => h9) rfl dX9_takesRanking_51 ?_
        refine lv_iload_n hx hb dX9_takesRanking_54 rfl (lv_at hl 4 rfl) ?_
        refine lv_bipush (v := 6) hx hb dX9_takesRanking_55 (by decide) ?_
        refine lv_imul hx hb dX9_takesRanking_57 ?_
        refine lv_iload hx hb dX9_takesRanking_58 (lv_at hl 1 rfl) ?_
        refine lv_iadd hx hb dX9_takesRanking_60 ?_
        refine lv_iload hx hb dX9_takesRanking_61 (lv_at hl 5 rfl) ?_
        refine kSV (As := [.ref (a0 9), .int ((p2 * 6) + (f7_byteAt f1 A1 ((p2 * p1) + l4))), .int l4]) (rest := []) C0 (kt_X9_put l G (a0 9) 54 (A0 9) ((p2 * 6) + (f7_byteAt f1 A1 ((p2 * p1) + l4))) l4 (by decide)) gi_S_X9_101_X9_put (n := 3) rfl (by decide +kernel) ⟨rfl, rfl, Nat.le_of_ble_eq_true rfl, Nat.le_of_ble_eq_true rfl⟩ hPD hS [1] [0, 2, 3] [0, 3, 1, 2] (wN := (wX9 G h0 a0 wk f0 (updA A0 9 (f9_put 54 (A0 9) ((p2 * 6) + (f7_byteAt f1 A1 ((p2 * p1) + l4))) l4)) ++ (wX7 G (a0 0) a1 f1 A1))) rfl rfl rfl rfl rfl hl.1 (Nat.le_of_ble_eq_true rfl) dX9_takesRanking_63 (fun H locs hPD hS => ?_)
        obtain ⟨A0_2, eA0_2, h⟩ := lvl h
        have hPD : WD G DA (wX9 G h0 a0 wk f0 A0_2 ++ (wX7 G (a0 0) a1 f1 A1)) H := by rw [eA0_2]; exact hPD
        clear eA0_2
        refine lv_iinc (v := l4 + 1) (lv' := [(4, .int (l4 + 1)), (3, .int x_1), (5, .int (f7_byteAt f1 A1 ((p2 * p1) + l4))), (0, .ref h0), (1, .int p1), (2, .int p2)]) hx hb dX9_takesRanking_66 hl (k := 5) rfl rfl (by decide) rfl (fun ls hl => ?_)
        refine lv_goto (tgt := 5) hx hb dX9_takesRanking_69 (by decide) ?_
        exact hk5 A0_2 x_1 (l4 + 1) h _ _ _ hPD hS (lv_sub hl [3, 4, 5, 1, 0] rfl)
      · have h := (if_neg cc1).symm.trans h
        refine lv_iconst (v := 0) hx hb dX9_takesRanking_41 (by decide) ?_
        obtain rfl := Option.some.inj h
        exact eZ C0 hPD.1 hPD.2 hS rfl rfl dX9_takesRanking_42
set_option maxRecDepth 100000 in
set_option maxHeartbeats 4000000 in
theorem ww_f9_takesRanking_l5  (C0 : Cx cX9_takesRanking 6 (some .boolean) RX9 p s m args meth c G DA) {h0 : Nat} {a0 : Nat → Nat} {wk : Option Nat} {a1 : Nat → Nat} {f0 : Nat → Int32} {f1 : Nat → Int32} {A1 : Nat → Nat → Int32} {p1 : Int32} {p2 : Int32}   {res : Int32 × (Nat → Nat → Int32)}  : ∀ (n : Nat) (A0 : Nat → Nat → Int32) (l3 : Int32) (l4 : Int32), f9_takesRanking_l5 f0 f1 A1 p1 p2  n A0 l3 l4 = some res → ∀ (H : Heap) (locs : List Loc) (ls : Array Slot), WD G DA (wX9 G h0 a0 wk f0 A0 ++ (wX7 G (a0 0) a1 f1 A1)) H → va_S DA s.heap H locs → lv_has ls 6 [(0, .ref h0), (1, .int p1), (2, .int p2), (3, .int l3), (4, .int l4)] → W p l e rmX9_takesRanking s m args below meth c H locs 0 0 (MQ below (QI G DA res.1 (wX9 G h0 a0 wk f0 res.2 ++ (wX7 G (a0 0) a1 f1 A1))) args s 0 0 DA) (F0 m 5 ls []) := by
  intro n
  induction n with
  | zero => intro A0 l3 l4 h; cases h
  | succ n ih => intro A0 l3 l4 h; exact ww_f9_takesRanking_b5 C0  ih A0 l3 l4 h
set_option maxRecDepth 100000 in
set_option maxHeartbeats 4000000 in
theorem kt_X9_takesRanking (l : Launch) (G : Gp) (h0 : Nat) (a0 : Nat → Nat) (wk : Option Nat) (a1 : Nat → Nat) (f0 : Nat → Int32) (A0 : Nat → Nat → Int32) (f1 : Nat → Int32) (A1 : Nat → Nat → Int32) (p1 : Int32) (p2 : Int32) : ∀ {r : Int32 × (Nat → Nat → Int32)}, f9_takesRanking f0 A0 f1 A1 p1 p2 = some r → CtrI l yX9_takesRanking cX9_takesRanking 6 (some .boolean) rmX9_takesRanking G [.ref h0, .int p1, .int p2] (wX9 G h0 a0 wk f0 A0 ++ (wX7 G (a0 0) a1 f1 A1)) r.1 (wX9 G h0 a0 wk f0 r.2 ++ (wX7 G (a0 0) a1 f1 A1)) := by
  intro res h
  refine ctrI_of (cc := cX9_takesRanking) (maxL := 6) (ret := (some .boolean)) (by decide +kernel) rfl (Nat.le_of_ble_eq_true rfl) (fun p e s m below meth c DA C0 hP hD ls hl => ?_)
  have hPD : WD G DA (wX9 G h0 a0 wk f0 A0 ++ (wX7 G (a0 0) a1 f1 A1)) s.heap := ⟨hP, hD⟩
  have hS : va_S DA s.heap s.heap [] := va_S.rf
  have hl : lv_has ls 6 [(0, .ref h0), (1, .int p1), (2, .int p2)] := hl
  obtain ⟨hx, hb, hml, hown, hts⟩ := C0.1
  have hK := C0.2.2.2.1
  unfold f9_takesRanking at h
  refine lv_iconst (v := 0) hx hb dX9_takesRanking_0 (by decide) ?_
  refine lv_istore_n (lv' := [(3, .int 0), (0, .ref h0), (1, .int p1), (2, .int p2)]) hx hb dX9_takesRanking_1 rfl hl (by decide) rfl (fun ls hl => ?_)
  refine lv_iconst (v := 0) hx hb dX9_takesRanking_2 (by decide) ?_
  refine lv_istore (lv' := [(4, .int 0), (3, .int 0), (0, .ref h0), (1, .int p1), (2, .int p2)]) hx hb dX9_takesRanking_3 hl (by decide) rfl (fun ls hl => ?_)
  exact ww_f9_takesRanking_l5 C0 NF A0 0 0 h _ _ _ hPD hS (lv_sub hl [2, 3, 4, 1, 0] rfl)
abbrev rmX9_judgesFor : Room := { frames := 1, cells := 0, slots := 0, locals := 21 }
set_option maxRecDepth 100000 in
set_option maxHeartbeats 4000000 in
theorem ww_f9_judgesFor_b6  (C0 : Cx cX9_judgesFor 6 (some .int) RX9 p s m args meth c G DA) {h0 : Nat} {a0 : Nat → Nat} {wk : Option Nat} {f0 : Nat → Int32} {A0 : Nat → Nat → Int32} {p1 : Int32} {p2 : Int32} {p3 : Int32}  {k6 : Int32 → Int32 → Option (Int32)} {res : Int32}  (hk6 : ∀ (l4 : Int32) (l5 : Int32), k6 l4 l5 = some res → ∀ (H : Heap) (locs : List Loc) (ls : Array Slot), WD G DA (wX9 G h0 a0 wk f0 A0) H → va_S DA s.heap H locs → lv_has ls 6 [(0, .ref h0), (1, .int p1), (2, .int p2), (3, .int p3), (4, .int l4), (5, .int l5)] → W p l e rmX9_judgesFor s m args below meth c H locs 0 0 (MQ below (QI G DA res (wX9 G h0 a0 wk f0 A0)) args s 0 0 DA) (F0 m 6 ls [])) : ∀ (l4 : Int32) (l5 : Int32), f9_judgesFor_b6 f0 A0 p1 p2 p3  k6 l4 l5 = some res → ∀ (H : Heap) (locs : List Loc) (ls : Array Slot), WD G DA (wX9 G h0 a0 wk f0 A0) H → va_S DA s.heap H locs → lv_has ls 6 [(0, .ref h0), (1, .int p1), (2, .int p2), (3, .int p3), (4, .int l4), (5, .int l5)] → W p l e rmX9_judgesFor s m args below meth c H locs 0 0 (MQ below (QI G DA res (wX9 G h0 a0 wk f0 A0)) args s 0 0 DA) (F0 m 6 ls []) := by
  obtain ⟨hx, hb, hml, hown, hts⟩ := C0.1
  have hK := C0.2.2.2.1
  intro l4 l5 h _ _ _ hPD hS hl
  unfold f9_judgesFor_b6 at h
  refine lv_iload hx hb dX9_judgesFor_6 (lv_at hl 5 rfl) ?_
  refine lv_iload_n hx hb dX9_judgesFor_8 rfl (lv_at hl 3 rfl) ?_
  refine lv_icmp_ge (tgt := 52) hx hb dX9_judgesFor_9 (by decide) (fun cc1 => ?_) (fun cc1 => ?_)
  · have h := (if_pos cc1).symm.trans h
    refine lv_iload hx hb dX9_judgesFor_52 (lv_at hl 4 rfl) ?_
    obtain rfl := Option.some.inj h
    exact eI C0 hPD.1 hPD.2 hS rfl dX9_judgesFor_54
  · have h := (if_neg cc1).symm.trans h
    refine lv_aload_n hx hb dX9_judgesFor_12 rfl (lv_at hl 0 rfl) ?_
    refine va_get (D := G.1) (ci := 9) (v := .ref (a0 9)) (C := RX9) (T := TX9) (N := 15) hx hb hts inlX9 hown hK hPD.1 0 rfl rfl 9 (by decide) (hts _ gw_503) (fun _ h9 => h9) rfl dX9_judgesFor_13 ?_
    refine lv_iload hx hb dX9_judgesFor_16 (lv_at hl 5 rfl) ?_
    refine lv_bipush (v := 6) hx hb dX9_judgesFor_18 (by decide) ?_
    refine lv_imul hx hb dX9_judgesFor_20 ?_
    refine lv_iload_n hx hb dX9_judgesFor_21 rfl (lv_at hl 1 rfl) ?_
    refine lv_iadd hx hb dX9_judgesFor_22 ?_
    refine kSI (As := [.ref (a0 9), .int ((l5 * 6) + p1)]) (rest := []) C0 (kt_X9_at l G (a0 9) 54 (A0 9) ((l5 * 6) + p1) (by decide)) gi_S_X9_188_X9_at (n := 2) rfl (by decide +kernel) ⟨rfl, rfl, Nat.le_of_ble_eq_true rfl, Nat.le_of_ble_eq_true rfl⟩ hPD hS [1] [0] [0, 1] (wN := (wX9 G h0 a0 wk f0 A0)) rfl rfl rfl rfl rfl hl.1 (Nat.le_of_ble_eq_true rfl) dX9_judgesFor_23 (fun H locs hPD hS => ?_)
    refine lv_aload_n hx hb dX9_judgesFor_26 rfl (lv_at hl 0 rfl) ?_
    refine va_get (D := G.1) (ci := 9) (v := .ref (a0 9)) (C := RX9) (T := TX9) (N := 15) hx hb hts inlX9 hown hK hPD.1 0 rfl rfl 9 (by decide) (hts _ gw_503) (fun _ h9 => h9) rfl dX9_judgesFor_27 ?_
    refine lv_iload hx hb dX9_judgesFor_30 (lv_at hl 5 rfl) ?_
    refine lv_bipush (v := 6) hx hb dX9_judgesFor_32 (by decide) ?_
    refine lv_imul hx hb dX9_judgesFor_34 ?_
    refine lv_iload_n hx hb dX9_judgesFor_35 rfl (lv_at hl 2 rfl) ?_
    refine lv_iadd hx hb dX9_judgesFor_36 ?_
    refine kSI (As := [.ref (a0 9), .int ((l5 * 6) + p2)]) (rest := [.int (f9_at 54 (A0 9) ((l5 * 6) + p1))]) C0 (kt_X9_at l G (a0 9) 54 (A0 9) ((l5 * 6) + p2) (by decide)) gi_S_X9_188_X9_at (n := 2) rfl (by decide +kernel) ⟨rfl, rfl, Nat.le_of_ble_eq_true rfl, Nat.le_of_ble_eq_true rfl⟩ hPD hS [1] [0] [0, 1] (wN := (wX9 G h0 a0 wk f0 A0)) rfl rfl rfl rfl rfl hl.1 (Nat.le_of_ble_eq_true rfl) dX9_judgesFor_37 (fun H locs hPD hS => ?_)
    refine lv_icmp_ge (tgt := 46) hx hb dX9_judgesFor_40 (by decide) (fun cc1 => ?_) (fun cc1 => ?_)
    · have h := (if_pos cc1).symm.trans h
      refine lv_iinc (v := l5 + 1) (lv' := [(5, .int (l5 + 1)), (0, .ref h0), (1, .int p1), (2, .int p2), (3, .int p3), (4, .int l4)]) hx hb dX9_judgesFor_46 hl (k := 5) rfl rfl (by decide) rfl (fun ls hl => ?_)
      refine lv_goto (tgt := 6) hx hb dX9_judgesFor_49 (by decide) ?_
      exact hk6 l4 (l5 + 1) h _ _ _ hPD hS (lv_sub hl [1, 2, 3, 4, 5, 0] rfl)
    · have h := (if_neg cc1).symm.trans h
      refine lv_iinc (v := l4 + 1) (lv' := [(4, .int (l4 + 1)), (0, .ref h0), (1, .int p1), (2, .int p2), (3, .int p3), (5, .int l5)]) hx hb dX9_judgesFor_43 hl (k := 4) rfl rfl (by decide) rfl (fun ls hl => ?_)
      refine lv_iinc (v := l5 + 1) (lv' := [(5, .int (l5 + 1)), (4, .int (l4 + 1)), (0, .ref h0), (1, .int p1), (2, .int p2), (3, .int p3)]) hx hb dX9_judgesFor_46 hl (k := 5) rfl rfl (by decide) rfl (fun ls hl => ?_)
      refine lv_goto (tgt := 6) hx hb dX9_judgesFor_49 (by decide) ?_
      exact hk6 (l4 + 1) (l5 + 1) h _ _ _ hPD hS (lv_sub hl [2, 3, 4, 5, 1, 0] rfl)
set_option maxRecDepth 100000 in
set_option maxHeartbeats 4000000 in
theorem ww_f9_judgesFor_l6  (C0 : Cx cX9_judgesFor 6 (some .int) RX9 p s m args meth c G DA) {h0 : Nat} {a0 : Nat → Nat} {wk : Option Nat} {f0 : Nat → Int32} {A0 : Nat → Nat → Int32} {p1 : Int32} {p2 : Int32} {p3 : Int32}   {res : Int32}  : ∀ (n : Nat) (l4 : Int32) (l5 : Int32), f9_judgesFor_l6 f0 A0 p1 p2 p3  n l4 l5 = some res → ∀ (H : Heap) (locs : List Loc) (ls : Array Slot), WD G DA (wX9 G h0 a0 wk f0 A0) H → va_S DA s.heap H locs → lv_has ls 6 [(0, .ref h0), (1, .int p1), (2, .int p2), (3, .int p3), (4, .int l4), (5, .int l5)] → W p l e rmX9_judgesFor s m args below meth c H locs 0 0 (MQ below (QI G DA res (wX9 G h0 a0 wk f0 A0)) args s 0 0 DA) (F0 m 6 ls []) := by
  intro n
  induction n with
  | zero => intro l4 l5 h; cases h
  | succ n ih => intro l4 l5 h; exact ww_f9_judgesFor_b6 C0  ih l4 l5 h
set_option maxRecDepth 100000 in
set_option maxHeartbeats 4000000 in
theorem kt_X9_judgesFor (l : Launch) (G : Gp) (h0 : Nat) (a0 : Nat → Nat) (wk : Option Nat) (f0 : Nat → Int32) (A0 : Nat → Nat → Int32) (p1 : Int32) (p2 : Int32) (p3 : Int32) : ∀ {r : Int32}, f9_judgesFor f0 A0 p1 p2 p3 = some r → CtrI l yX9_judgesFor cX9_judgesFor 6 (some .int) rmX9_judgesFor G [.ref h0, .int p1, .int p2, .int p3] (wX9 G h0 a0 wk f0 A0) r (wX9 G h0 a0 wk f0 A0) := by
  intro res h
  refine ctrI_of (cc := cX9_judgesFor) (maxL := 6) (ret := (some .int)) (by decide +kernel) rfl (Nat.le_of_ble_eq_true rfl) (fun p e s m below meth c DA C0 hP hD ls hl => ?_)
  have hPD : WD G DA (wX9 G h0 a0 wk f0 A0) s.heap := ⟨hP, hD⟩
  have hS : va_S DA s.heap s.heap [] := va_S.rf
  have hl : lv_has ls 6 [(0, .ref h0), (1, .int p1), (2, .int p2), (3, .int p3)] := hl
  obtain ⟨hx, hb, hml, hown, hts⟩ := C0.1
  have hK := C0.2.2.2.1
  unfold f9_judgesFor at h
  refine lv_iconst (v := 0) hx hb dX9_judgesFor_0 (by decide) ?_
  refine lv_istore (lv' := [(4, .int 0), (0, .ref h0), (1, .int p1), (2, .int p2), (3, .int p3)]) hx hb dX9_judgesFor_1 hl (by decide) rfl (fun ls hl => ?_)
  refine lv_iconst (v := 0) hx hb dX9_judgesFor_3 (by decide) ?_
  refine lv_istore (lv' := [(5, .int 0), (4, .int 0), (0, .ref h0), (1, .int p1), (2, .int p2), (3, .int p3)]) hx hb dX9_judgesFor_4 hl (by decide) rfl (fun ls hl => ?_)
  exact ww_f9_judgesFor_l6 C0 NF 0 0 h _ _ _ hPD hS (lv_sub hl [2, 3, 4, 5, 1, 0] rfl)
abbrev rmX9_beatsAllOthers : Room := { frames := 2, cells := 0, slots := 0, locals := 46 }
set_option maxRecDepth 100000 in
set_option maxHeartbeats 4000000 in
theorem ww_f9_beatsAllOthers_b13  (C0 : Cx cX9_beatsAllOthers 6 (some .int) RX9 p s m args meth c G DA) {h0 : Nat} {a0 : Nat → Nat} {wk : Option Nat} {f0 : Nat → Int32} {A0 : Nat → Nat → Int32} {p1 : Int32} {p2 : Int32}  {k2 : Int32 → Option (Int32)} {k13 : Int32 → Int32 → Int32 → Option (Int32)} {res : Int32} (hk2 : ∀ (l3 : Int32), k2 l3 = some res → ∀ (H : Heap) (locs : List Loc) (ls : Array Slot), WD G DA (wX9 G h0 a0 wk f0 A0) H → va_S DA s.heap H locs → lv_has ls 6 [(0, .ref h0), (1, .int p1), (2, .int p2), (3, .int l3)] → W p l e rmX9_beatsAllOthers s m args below meth c H locs 0 0 (MQ below (QI G DA res (wX9 G h0 a0 wk f0 A0)) args s 0 0 DA) (F0 m 2 ls [])) (hk13 : ∀ (l3 : Int32) (l4 : Int32) (l5 : Int32), k13 l3 l4 l5 = some res → ∀ (H : Heap) (locs : List Loc) (ls : Array Slot), WD G DA (wX9 G h0 a0 wk f0 A0) H → va_S DA s.heap H locs → lv_has ls 6 [(0, .ref h0), (1, .int p1), (2, .int p2), (3, .int l3), (4, .int l4), (5, .int l5)] → W p l e rmX9_beatsAllOthers s m args below meth c H locs 0 0 (MQ below (QI G DA res (wX9 G h0 a0 wk f0 A0)) args s 0 0 DA) (F0 m 13 ls [])) : ∀ (l3 : Int32) (l4 : Int32) (l5 : Int32), f9_beatsAllOthers_b13 f0 A0 p1 p2 k2 k13 l3 l4 l5 = some res → ∀ (H : Heap) (locs : List Loc) (ls : Array Slot), WD G DA (wX9 G h0 a0 wk f0 A0) H → va_S DA s.heap H locs → lv_has ls 6 [(0, .ref h0), (1, .int p1), (2, .int p2), (3, .int l3), (4, .int l4), (5, .int l5)] → W p l e rmX9_beatsAllOthers s m args below meth c H locs 0 0 (MQ below (QI G DA res (wX9 G h0 a0 wk f0 A0)) args s 0 0 DA) (F0 m 13 ls []) := by
  obtain ⟨hx, hb, hml, hown, hts⟩ := C0.1
  have hK := C0.2.2.2.1
  intro l3 l4 l5 h _ _ _ hPD hS hl
  unfold f9_beatsAllOthers_b13 at h
  refine lv_iload hx hb dX9_beatsAllOthers_13 (lv_at hl 5 rfl) ?_
  refine lv_iload_n hx hb dX9_beatsAllOthers_15 rfl (lv_at hl 1 rfl) ?_
  refine lv_icmp_ge (tgt := 48) hx hb dX9_beatsAllOthers_16 (by decide) (fun cc1 => ?_) (fun cc1 => ?_)
  · have h := (if_pos cc1).symm.trans h
    refine lv_iload hx hb dX9_beatsAllOthers_48 (lv_at hl 4 rfl) ?_
    refine lv_iload_n hx hb dX9_beatsAllOthers_50 rfl (lv_at hl 1 rfl) ?_
    refine lv_iconst (v := 1) hx hb dX9_beatsAllOthers_51 (by decide) ?_
    refine lv_isub hx hb dX9_beatsAllOthers_52 ?_
    refine lv_icmp_ne (tgt := 58) hx hb dX9_beatsAllOthers_53 (by decide) (fun cc1 => ?_) (fun cc1 => ?_)
    · have h := (if_neg cc1).symm.trans h
      refine lv_iinc (v := l3 + 1) (lv' := [(3, .int (l3 + 1)), (0, .ref h0), (1, .int p1), (2, .int p2), (4, .int l4), (5, .int l5)]) hx hb dX9_beatsAllOthers_58 hl (k := 3) rfl rfl (by decide) rfl (fun ls hl => ?_)
      refine lv_goto (tgt := 2) hx hb dX9_beatsAllOthers_61 (by decide) ?_
      exact hk2 (l3 + 1) h _ _ _ hPD hS (lv_sub hl [1, 2, 3, 0] rfl)
    · have h := (if_pos cc1).symm.trans h
      refine lv_iload_n hx hb dX9_beatsAllOthers_56 rfl (lv_at hl 3 rfl) ?_
      obtain rfl := Option.some.inj h
      exact eI C0 hPD.1 hPD.2 hS rfl dX9_beatsAllOthers_57
  · have h := (if_neg cc1).symm.trans h
    refine lv_iload_n hx hb dX9_beatsAllOthers_19 rfl (lv_at hl 3 rfl) ?_
    refine lv_iload hx hb dX9_beatsAllOthers_20 (lv_at hl 5 rfl) ?_
    refine lv_icmp_eq (tgt := 42) hx hb dX9_beatsAllOthers_22 (by decide) (fun cc1 => ?_) (fun cc1 => ?_)
    · have h := (if_pos cc1).symm.trans h
      refine lv_iinc (v := l5 + 1) (lv' := [(5, .int (l5 + 1)), (0, .ref h0), (1, .int p1), (2, .int p2), (3, .int l3), (4, .int l4)]) hx hb dX9_beatsAllOthers_42 hl (k := 5) rfl rfl (by decide) rfl (fun ls hl => ?_)
      refine lv_goto (tgt := 13) hx hb dX9_beatsAllOthers_45 (by decide) ?_
      exact hk13 l3 l4 (l5 + 1) h _ _ _ hPD hS (lv_sub hl [1, 2, 3, 4, 5, 0] rfl)
    · have h := (if_neg cc1).symm.trans h
      refine lv_iconst (v := 2) hx hb dX9_beatsAllOthers_25 (by decide) ?_
      refine lv_aload_n hx hb dX9_beatsAllOthers_26 rfl (lv_at hl 0 rfl) ?_
      refine lv_iload_n hx hb dX9_beatsAllOthers_27 rfl (lv_at hl 3 rfl) ?_
      refine lv_iload hx hb dX9_beatsAllOthers_28 (lv_at hl 5 rfl) ?_
      refine lv_iload_n hx hb dX9_beatsAllOthers_30 rfl (lv_at hl 2 rfl) ?_
      obtain ⟨q_1, hq_1, h⟩ := ob2 h
      refine kVI (As := [.int l3, .int l5, .int p2]) (rest := [.int 2]) C0 (kt_X9_judgesFor l G h0 a0 wk f0 A0 l3 l5 p2 hq_1) gi_V_X9_293_X9_judgesFor (n := 3) rfl (by decide +kernel) rfl ⟨rfl, rfl, Nat.le_of_ble_eq_true rfl, Nat.le_of_ble_eq_true rfl⟩ hPD hS 0 9 rfl rfl rfl [0, 1] [] [0, 1] (wN := (wX9 G h0 a0 wk f0 A0)) rfl rfl rfl rfl rfl hl.1 (Nat.le_of_ble_eq_true rfl) dX9_beatsAllOthers_31 (fun H locs hPD hS => ?_)
      refine lv_imul hx hb dX9_beatsAllOthers_34 ?_
      refine lv_iload_n hx hb dX9_beatsAllOthers_35 rfl (lv_at hl 2 rfl) ?_
      refine lv_icmp_le (tgt := 42) hx hb dX9_beatsAllOthers_36 (by decide) (fun cc1 => ?_) (fun cc1 => ?_)
      · have h := (if_pos cc1).symm.trans h
        refine lv_iinc (v := l5 + 1) (lv' := [(5, .int (l5 + 1)), (0, .ref h0), (1, .int p1), (2, .int p2), (3, .int l3), (4, .int l4)]) hx hb dX9_beatsAllOthers_42 hl (k := 5) rfl rfl (by decide) rfl (fun ls hl => ?_)
        refine lv_goto (tgt := 13) hx hb dX9_beatsAllOthers_45 (by decide) ?_
        exact hk13 l3 l4 (l5 + 1) h _ _ _ hPD hS (lv_sub hl [1, 2, 3, 4, 5, 0] rfl)
      · have h := (if_neg cc1).symm.trans h
        refine lv_iinc (v := l4 + 1) (lv' := [(4, .int (l4 + 1)), (0, .ref h0), (1, .int p1), (2, .int p2), (3, .int l3), (5, .int l5)]) hx hb dX9_beatsAllOthers_39 hl (k := 4) rfl rfl (by decide) rfl (fun ls hl => ?_)
        refine lv_iinc (v := l5 + 1) (lv' := [(5, .int (l5 + 1)), (4, .int (l4 + 1)), (0, .ref h0), (1, .int p1), (2, .int p2), (3, .int l3)]) hx hb dX9_beatsAllOthers_42 hl (k := 5) rfl rfl (by decide) rfl (fun ls hl => ?_)
        refine lv_goto (tgt := 13) hx hb dX9_beatsAllOthers_45 (by decide) ?_
        exact hk13 l3 (l4 + 1) (l5 + 1) h _ _ _ hPD hS (lv_sub hl [2, 3, 4, 5, 1, 0] rfl)
set_option maxRecDepth 100000 in
set_option maxHeartbeats 4000000 in
theorem ww_f9_beatsAllOthers_l13  (C0 : Cx cX9_beatsAllOthers 6 (some .int) RX9 p s m args meth c G DA) {h0 : Nat} {a0 : Nat → Nat} {wk : Option Nat} {f0 : Nat → Int32} {A0 : Nat → Nat → Int32} {p1 : Int32} {p2 : Int32}  {k2 : Int32 → Option (Int32)} {res : Int32} (hk2 : ∀ (l3 : Int32), k2 l3 = some res → ∀ (H : Heap) (locs : List Loc) (ls : Array Slot), WD G DA (wX9 G h0 a0 wk f0 A0) H → va_S DA s.heap H locs → lv_has ls 6 [(0, .ref h0), (1, .int p1), (2, .int p2), (3, .int l3)] → W p l e rmX9_beatsAllOthers s m args below meth c H locs 0 0 (MQ below (QI G DA res (wX9 G h0 a0 wk f0 A0)) args s 0 0 DA) (F0 m 2 ls [])) : ∀ (n : Nat) (l3 : Int32) (l4 : Int32) (l5 : Int32), f9_beatsAllOthers_l13 f0 A0 p1 p2 k2 n l3 l4 l5 = some res → ∀ (H : Heap) (locs : List Loc) (ls : Array Slot), WD G DA (wX9 G h0 a0 wk f0 A0) H → va_S DA s.heap H locs → lv_has ls 6 [(0, .ref h0), (1, .int p1), (2, .int p2), (3, .int l3), (4, .int l4), (5, .int l5)] → W p l e rmX9_beatsAllOthers s m args below meth c H locs 0 0 (MQ below (QI G DA res (wX9 G h0 a0 wk f0 A0)) args s 0 0 DA) (F0 m 13 ls []) := by
  intro n
  induction n with
  | zero => intro l3 l4 l5 h; cases h
  | succ n ih => intro l3 l4 l5 h; exact ww_f9_beatsAllOthers_b13 C0 hk2 ih l3 l4 l5 h
set_option maxRecDepth 100000 in
set_option maxHeartbeats 4000000 in
theorem ww_f9_beatsAllOthers_b2  (C0 : Cx cX9_beatsAllOthers 6 (some .int) RX9 p s m args meth c G DA) {h0 : Nat} {a0 : Nat → Nat} {wk : Option Nat} {f0 : Nat → Int32} {A0 : Nat → Nat → Int32} {p1 : Int32} {p2 : Int32}  {k2 : Int32 → Option (Int32)} {res : Int32}  (hk2 : ∀ (l3 : Int32), k2 l3 = some res → ∀ (H : Heap) (locs : List Loc) (ls : Array Slot), WD G DA (wX9 G h0 a0 wk f0 A0) H → va_S DA s.heap H locs → lv_has ls 6 [(0, .ref h0), (1, .int p1), (2, .int p2), (3, .int l3)] → W p l e rmX9_beatsAllOthers s m args below meth c H locs 0 0 (MQ below (QI G DA res (wX9 G h0 a0 wk f0 A0)) args s 0 0 DA) (F0 m 2 ls [])) : ∀ (l3 : Int32), f9_beatsAllOthers_b2 f0 A0 p1 p2  k2 l3 = some res → ∀ (H : Heap) (locs : List Loc) (ls : Array Slot), WD G DA (wX9 G h0 a0 wk f0 A0) H → va_S DA s.heap H locs → lv_has ls 6 [(0, .ref h0), (1, .int p1), (2, .int p2), (3, .int l3)] → W p l e rmX9_beatsAllOthers s m args below meth c H locs 0 0 (MQ below (QI G DA res (wX9 G h0 a0 wk f0 A0)) args s 0 0 DA) (F0 m 2 ls []) := by
  obtain ⟨hx, hb, hml, hown, hts⟩ := C0.1
  have hK := C0.2.2.2.1
  intro l3 h _ _ _ hPD hS hl
  unfold f9_beatsAllOthers_b2 at h
  refine lv_iload_n hx hb dX9_beatsAllOthers_2 rfl (lv_at hl 3 rfl) ?_
  refine lv_iload_n hx hb dX9_beatsAllOthers_3 rfl (lv_at hl 1 rfl) ?_
  refine lv_icmp_ge (tgt := 64) hx hb dX9_beatsAllOthers_4 (by decide) (fun cc1 => ?_) (fun cc1 => ?_)
  · have h := (if_pos cc1).symm.trans h
    refine lv_bipush (v := (-2)) hx hb dX9_beatsAllOthers_64 (by decide) ?_
    obtain rfl := Option.some.inj h
    exact eI C0 hPD.1 hPD.2 hS rfl dX9_beatsAllOthers_66
  · have h := (if_neg cc1).symm.trans h
    refine lv_iconst (v := 0) hx hb dX9_beatsAllOthers_7 (by decide) ?_
    refine lv_istore (lv' := [(4, .int 0), (0, .ref h0), (1, .int p1), (2, .int p2), (3, .int l3)]) hx hb dX9_beatsAllOthers_8 hl (by decide) rfl (fun ls hl => ?_)
    refine lv_iconst (v := 0) hx hb dX9_beatsAllOthers_10 (by decide) ?_
    refine lv_istore (lv' := [(5, .int 0), (4, .int 0), (0, .ref h0), (1, .int p1), (2, .int p2), (3, .int l3)]) hx hb dX9_beatsAllOthers_11 hl (by decide) rfl (fun ls hl => ?_)
    exact ww_f9_beatsAllOthers_l13 C0 hk2 NF l3 0 0 h _ _ _ hPD hS (lv_sub hl [2, 3, 4, 5, 1, 0] rfl)
set_option maxRecDepth 100000 in
set_option maxHeartbeats 4000000 in
theorem ww_f9_beatsAllOthers_l2  (C0 : Cx cX9_beatsAllOthers 6 (some .int) RX9 p s m args meth c G DA) {h0 : Nat} {a0 : Nat → Nat} {wk : Option Nat} {f0 : Nat → Int32} {A0 : Nat → Nat → Int32} {p1 : Int32} {p2 : Int32}   {res : Int32}  : ∀ (n : Nat) (l3 : Int32), f9_beatsAllOthers_l2 f0 A0 p1 p2  n l3 = some res → ∀ (H : Heap) (locs : List Loc) (ls : Array Slot), WD G DA (wX9 G h0 a0 wk f0 A0) H → va_S DA s.heap H locs → lv_has ls 6 [(0, .ref h0), (1, .int p1), (2, .int p2), (3, .int l3)] → W p l e rmX9_beatsAllOthers s m args below meth c H locs 0 0 (MQ below (QI G DA res (wX9 G h0 a0 wk f0 A0)) args s 0 0 DA) (F0 m 2 ls []) := by
  intro n
  induction n with
  | zero => intro l3 h; cases h
  | succ n ih => intro l3 h; exact ww_f9_beatsAllOthers_b2 C0  ih l3 h
set_option maxRecDepth 100000 in
set_option maxHeartbeats 4000000 in
theorem kt_X9_beatsAllOthers (l : Launch) (G : Gp) (h0 : Nat) (a0 : Nat → Nat) (wk : Option Nat) (f0 : Nat → Int32) (A0 : Nat → Nat → Int32) (p1 : Int32) (p2 : Int32) : ∀ {r : Int32}, f9_beatsAllOthers f0 A0 p1 p2 = some r → CtrI l yX9_beatsAllOthers cX9_beatsAllOthers 6 (some .int) rmX9_beatsAllOthers G [.ref h0, .int p1, .int p2] (wX9 G h0 a0 wk f0 A0) r (wX9 G h0 a0 wk f0 A0) := by
  intro res h
  refine ctrI_of (cc := cX9_beatsAllOthers) (maxL := 6) (ret := (some .int)) (by decide +kernel) rfl (Nat.le_of_ble_eq_true rfl) (fun p e s m below meth c DA C0 hP hD ls hl => ?_)
  have hPD : WD G DA (wX9 G h0 a0 wk f0 A0) s.heap := ⟨hP, hD⟩
  have hS : va_S DA s.heap s.heap [] := va_S.rf
  have hl : lv_has ls 6 [(0, .ref h0), (1, .int p1), (2, .int p2)] := hl
  obtain ⟨hx, hb, hml, hown, hts⟩ := C0.1
  have hK := C0.2.2.2.1
  unfold f9_beatsAllOthers at h
  refine lv_iconst (v := 0) hx hb dX9_beatsAllOthers_0 (by decide) ?_
  refine lv_istore_n (lv' := [(3, .int 0), (0, .ref h0), (1, .int p1), (2, .int p2)]) hx hb dX9_beatsAllOthers_1 rfl hl (by decide) rfl (fun ls hl => ?_)
  exact ww_f9_beatsAllOthers_l2 C0 NF 0 h _ _ _ hPD hS (lv_sub hl [1, 2, 3, 0] rfl)
abbrev rmX9_fewestPlaces : Room := { frames := 1, cells := 0, slots := 0, locals := 21 }
set_option maxRecDepth 100000 in
set_option maxHeartbeats 4000000 in
theorem ww_f9_fewestPlaces_b20  (C0 : Cx cX9_fewestPlaces 8 (some .int) RX9 p s m args meth c G DA) {h0 : Nat} {a0 : Nat → Nat} {wk : Option Nat} {f0 : Nat → Int32} {A0 : Nat → Nat → Int32} {p1 : Int32} {p2 : Int32}  {k8 : Int32 → Int32 → Int32 → Option (Int32)} {k20 : Int32 → Int32 → Int32 → Int32 → Int32 → Option (Int32)} {res : Int32} (hk8 : ∀ (l3 : Int32) (l4 : Int32) (l5 : Int32), k8 l3 l4 l5 = some res → ∀ (H : Heap) (locs : List Loc) (ls : Array Slot), WD G DA (wX9 G h0 a0 wk f0 A0) H → va_S DA s.heap H locs → lv_has ls 8 [(0, .ref h0), (1, .int p1), (2, .int p2), (3, .int l3), (4, .int l4), (5, .int l5)] → W p l e rmX9_fewestPlaces s m args below meth c H locs 0 0 (MQ below (QI G DA res (wX9 G h0 a0 wk f0 A0)) args s 0 0 DA) (F0 m 8 ls [])) (hk20 : ∀ (l3 : Int32) (l4 : Int32) (l5 : Int32) (l6 : Int32) (l7 : Int32), k20 l3 l4 l5 l6 l7 = some res → ∀ (H : Heap) (locs : List Loc) (ls : Array Slot), WD G DA (wX9 G h0 a0 wk f0 A0) H → va_S DA s.heap H locs → lv_has ls 8 [(0, .ref h0), (1, .int p1), (2, .int p2), (3, .int l3), (4, .int l4), (5, .int l5), (6, .int l6), (7, .int l7)] → W p l e rmX9_fewestPlaces s m args below meth c H locs 0 0 (MQ below (QI G DA res (wX9 G h0 a0 wk f0 A0)) args s 0 0 DA) (F0 m 20 ls [])) : ∀ (l3 : Int32) (l4 : Int32) (l5 : Int32) (l6 : Int32) (l7 : Int32), f9_fewestPlaces_b20 f0 A0 p1 p2 k8 k20 l3 l4 l5 l6 l7 = some res → ∀ (H : Heap) (locs : List Loc) (ls : Array Slot), WD G DA (wX9 G h0 a0 wk f0 A0) H → va_S DA s.heap H locs → lv_has ls 8 [(0, .ref h0), (1, .int p1), (2, .int p2), (3, .int l3), (4, .int l4), (5, .int l5), (6, .int l6), (7, .int l7)] → W p l e rmX9_fewestPlaces s m args below meth c H locs 0 0 (MQ below (QI G DA res (wX9 G h0 a0 wk f0 A0)) args s 0 0 DA) (F0 m 20 ls []) := by
  obtain ⟨hx, hb, hml, hown, hts⟩ := C0.1
  have hK := C0.2.2.2.1
  intro l3 l4 l5 l6 l7 h _ _ _ hPD hS hl
  unfold f9_fewestPlaces_b20 at h
  refine lv_iload hx hb dX9_fewestPlaces_20 (lv_at hl 7 rfl) ?_
  refine lv_iload_n hx hb dX9_fewestPlaces_22 rfl (lv_at hl 2 rfl) ?_
  refine lv_icmp_ge (tgt := 52) hx hb dX9_fewestPlaces_23 (by decide) (fun cc1 => ?_) (fun cc1 => ?_)
  · have h := (if_pos cc1).symm.trans h
    refine lv_iload_n hx hb dX9_fewestPlaces_52 rfl (lv_at hl 3 rfl) ?_
    refine lv_iconst (v := (-1)) hx hb dX9_fewestPlaces_53 (by decide) ?_
    refine lv_icmp_eq (tgt := 64) hx hb dX9_fewestPlaces_54 (by decide) (fun cc1 => ?_) (fun cc1 => ?_)
    · have h := (if_pos cc1).symm.trans h
      refine lv_iload hx hb dX9_fewestPlaces_64 (lv_at hl 6 rfl) ?_
      refine lv_istore (lv' := [(4, .int l6), (0, .ref h0), (1, .int p1), (2, .int p2), (3, .int l3), (5, .int l5), (6, .int l6), (7, .int l7)]) hx hb dX9_fewestPlaces_66 hl (by decide) rfl (fun ls hl => ?_)
      refine lv_iload hx hb dX9_fewestPlaces_68 (lv_at hl 5 rfl) ?_
      refine lv_istore_n (lv' := [(3, .int l5), (4, .int l6), (0, .ref h0), (1, .int p1), (2, .int p2), (5, .int l5), (6, .int l6), (7, .int l7)]) hx hb dX9_fewestPlaces_70 rfl hl (by decide) rfl (fun ls hl => ?_)
      refine lv_iinc (v := l5 + 1) (lv' := [(5, .int (l5 + 1)), (3, .int l5), (4, .int l6), (0, .ref h0), (1, .int p1), (2, .int p2), (6, .int l6), (7, .int l7)]) hx hb dX9_fewestPlaces_71 hl (k := 5) rfl rfl (by decide) rfl (fun ls hl => ?_)
      refine lv_goto (tgt := 8) hx hb dX9_fewestPlaces_74 (by decide) ?_
      exact hk8 l5 l6 (l5 + 1) h _ _ _ hPD hS (lv_sub hl [3, 4, 5, 1, 2, 0] rfl)
    · have h := (if_neg cc1).symm.trans h
      refine lv_iload hx hb dX9_fewestPlaces_57 (lv_at hl 6 rfl) ?_
      refine lv_iload hx hb dX9_fewestPlaces_59 (lv_at hl 4 rfl) ?_
      refine lv_icmp_ge (tgt := 71) hx hb dX9_fewestPlaces_61 (by decide) (fun cc1 => ?_) (fun cc1 => ?_)
      · have h := (if_pos cc1).symm.trans h
        refine lv_iinc (v := l5 + 1) (lv' := [(5, .int (l5 + 1)), (0, .ref h0), (1, .int p1), (2, .int p2), (3, .int l3), (4, .int l4), (6, .int l6), (7, .int l7)]) hx hb dX9_fewestPlaces_71 hl (k := 5) rfl rfl (by decide) rfl (fun ls hl => ?_)
        refine lv_goto (tgt := 8) hx hb dX9_fewestPlaces_74 (by decide) ?_
        exact hk8 l3 l4 (l5 + 1) h _ _ _ hPD hS (lv_sub hl [1, 2, 3, 4, 5, 0] rfl)
      · have h := (if_neg cc1).symm.trans h
        refine lv_iload hx hb dX9_fewestPlaces_64 (lv_at hl 6 rfl) ?_
        refine lv_istore (lv' := [(4, .int l6), (0, .ref h0), (1, .int p1), (2, .int p2), (3, .int l3), (5, .int l5), (6, .int l6), (7, .int l7)]) hx hb dX9_fewestPlaces_66 hl (by decide) rfl (fun ls hl => ?_)
        refine lv_iload hx hb dX9_fewestPlaces_68 (lv_at hl 5 rfl) ?_
        refine lv_istore_n (lv' := [(3, .int l5), (4, .int l6), (0, .ref h0), (1, .int p1), (2, .int p2), (5, .int l5), (6, .int l6), (7, .int l7)]) hx hb dX9_fewestPlaces_70 rfl hl (by decide) rfl (fun ls hl => ?_)
        refine lv_iinc (v := l5 + 1) (lv' := [(5, .int (l5 + 1)), (3, .int l5), (4, .int l6), (0, .ref h0), (1, .int p1), (2, .int p2), (6, .int l6), (7, .int l7)]) hx hb dX9_fewestPlaces_71 hl (k := 5) rfl rfl (by decide) rfl (fun ls hl => ?_)
        refine lv_goto (tgt := 8) hx hb dX9_fewestPlaces_74 (by decide) ?_
        exact hk8 l5 l6 (l5 + 1) h _ _ _ hPD hS (lv_sub hl [3, 4, 5, 1, 2, 0] rfl)
  · have h := (if_neg cc1).symm.trans h
    refine lv_iload hx hb dX9_fewestPlaces_26 (lv_at hl 6 rfl) ?_
    refine lv_aload_n hx hb dX9_fewestPlaces_28 rfl (lv_at hl 0 rfl) ?_
    refine va_get (D := G.1) (ci := 9) (v := .ref (a0 9)) (C := RX9) (T := TX9) (N := 15) hx hb hts inlX9 hown hK hPD.1 0 rfl rfl 9 (by decide) (hts _ gw_503) (fun _ h9 => h9) rfl dX9_fewestPlaces_29 ?_
    refine lv_iload hx hb dX9_fewestPlaces_32 (lv_at hl 7 rfl) ?_
    refine lv_bipush (v := 6) hx hb dX9_fewestPlaces_34 (by decide) ?_
    refine lv_imul hx hb dX9_fewestPlaces_36 ?_
    refine lv_iload hx hb dX9_fewestPlaces_37 (lv_at hl 5 rfl) ?_
    refine lv_iadd hx hb dX9_fewestPlaces_39 ?_
    refine kSI (As := [.ref (a0 9), .int ((l7 * 6) + l5)]) (rest := [.int l6]) C0 (kt_X9_at l G (a0 9) 54 (A0 9) ((l7 * 6) + l5) (by decide)) gi_S_X9_188_X9_at (n := 2) rfl (by decide +kernel) ⟨rfl, rfl, Nat.le_of_ble_eq_true rfl, Nat.le_of_ble_eq_true rfl⟩ hPD hS [1] [0] [0, 1] (wN := (wX9 G h0 a0 wk f0 A0)) rfl rfl rfl rfl rfl hl.1 (Nat.le_of_ble_eq_true rfl) dX9_fewestPlaces_40 (fun H locs hPD hS => ?_)
    refine lv_iadd hx hb dX9_fewestPlaces_43 ?_
    refine lv_istore (lv' := [(6, .int (l6 + (f9_at 54 (A0 9) ((l7 * 6) + l5)))), (0, .ref h0), (1, .int p1), (2, .int p2), (3, .int l3), (4, .int l4), (5, .int l5), (7, .int l7)]) hx hb dX9_fewestPlaces_44 hl (by decide) rfl (fun ls hl => ?_)
    refine lv_iinc (v := l7 + 1) (lv' := [(7, .int (l7 + 1)), (6, .int (l6 + (f9_at 54 (A0 9) ((l7 * 6) + l5)))), (0, .ref h0), (1, .int p1), (2, .int p2), (3, .int l3), (4, .int l4), (5, .int l5)]) hx hb dX9_fewestPlaces_46 hl (k := 7) rfl rfl (by decide) rfl (fun ls hl => ?_)
    refine lv_goto (tgt := 20) hx hb dX9_fewestPlaces_49 (by decide) ?_
    exact hk20 l3 l4 l5 (l6 + (f9_at 54 (A0 9) ((l7 * 6) + l5))) (l7 + 1) h _ _ _ hPD hS (lv_sub hl [2, 3, 4, 5, 6, 7, 1, 0] rfl)
set_option maxRecDepth 100000 in
set_option maxHeartbeats 4000000 in
theorem ww_f9_fewestPlaces_l20  (C0 : Cx cX9_fewestPlaces 8 (some .int) RX9 p s m args meth c G DA) {h0 : Nat} {a0 : Nat → Nat} {wk : Option Nat} {f0 : Nat → Int32} {A0 : Nat → Nat → Int32} {p1 : Int32} {p2 : Int32}  {k8 : Int32 → Int32 → Int32 → Option (Int32)} {res : Int32} (hk8 : ∀ (l3 : Int32) (l4 : Int32) (l5 : Int32), k8 l3 l4 l5 = some res → ∀ (H : Heap) (locs : List Loc) (ls : Array Slot), WD G DA (wX9 G h0 a0 wk f0 A0) H → va_S DA s.heap H locs → lv_has ls 8 [(0, .ref h0), (1, .int p1), (2, .int p2), (3, .int l3), (4, .int l4), (5, .int l5)] → W p l e rmX9_fewestPlaces s m args below meth c H locs 0 0 (MQ below (QI G DA res (wX9 G h0 a0 wk f0 A0)) args s 0 0 DA) (F0 m 8 ls [])) : ∀ (n : Nat) (l3 : Int32) (l4 : Int32) (l5 : Int32) (l6 : Int32) (l7 : Int32), f9_fewestPlaces_l20 f0 A0 p1 p2 k8 n l3 l4 l5 l6 l7 = some res → ∀ (H : Heap) (locs : List Loc) (ls : Array Slot), WD G DA (wX9 G h0 a0 wk f0 A0) H → va_S DA s.heap H locs → lv_has ls 8 [(0, .ref h0), (1, .int p1), (2, .int p2), (3, .int l3), (4, .int l4), (5, .int l5), (6, .int l6), (7, .int l7)] → W p l e rmX9_fewestPlaces s m args below meth c H locs 0 0 (MQ below (QI G DA res (wX9 G h0 a0 wk f0 A0)) args s 0 0 DA) (F0 m 20 ls []) := by
  intro n
  induction n with
  | zero => intro l3 l4 l5 l6 l7 h; cases h
  | succ n ih => intro l3 l4 l5 l6 l7 h; exact ww_f9_fewestPlaces_b20 C0 hk8 ih l3 l4 l5 l6 l7 h
set_option maxRecDepth 100000 in
set_option maxHeartbeats 4000000 in
theorem ww_f9_fewestPlaces_b8  (C0 : Cx cX9_fewestPlaces 8 (some .int) RX9 p s m args meth c G DA) {h0 : Nat} {a0 : Nat → Nat} {wk : Option Nat} {f0 : Nat → Int32} {A0 : Nat → Nat → Int32} {p1 : Int32} {p2 : Int32}  {k8 : Int32 → Int32 → Int32 → Option (Int32)} {res : Int32}  (hk8 : ∀ (l3 : Int32) (l4 : Int32) (l5 : Int32), k8 l3 l4 l5 = some res → ∀ (H : Heap) (locs : List Loc) (ls : Array Slot), WD G DA (wX9 G h0 a0 wk f0 A0) H → va_S DA s.heap H locs → lv_has ls 8 [(0, .ref h0), (1, .int p1), (2, .int p2), (3, .int l3), (4, .int l4), (5, .int l5)] → W p l e rmX9_fewestPlaces s m args below meth c H locs 0 0 (MQ below (QI G DA res (wX9 G h0 a0 wk f0 A0)) args s 0 0 DA) (F0 m 8 ls [])) : ∀ (l3 : Int32) (l4 : Int32) (l5 : Int32), f9_fewestPlaces_b8 f0 A0 p1 p2  k8 l3 l4 l5 = some res → ∀ (H : Heap) (locs : List Loc) (ls : Array Slot), WD G DA (wX9 G h0 a0 wk f0 A0) H → va_S DA s.heap H locs → lv_has ls 8 [(0, .ref h0), (1, .int p1), (2, .int p2), (3, .int l3), (4, .int l4), (5, .int l5)] → W p l e rmX9_fewestPlaces s m args below meth c H locs 0 0 (MQ below (QI G DA res (wX9 G h0 a0 wk f0 A0)) args s 0 0 DA) (F0 m 8 ls []) := by
  obtain ⟨hx, hb, hml, hown, hts⟩ := C0.1
  have hK := C0.2.2.2.1
  intro l3 l4 l5 h _ _ _ hPD hS hl
  unfold f9_fewestPlaces_b8 at h
  refine lv_iload hx hb dX9_fewestPlaces_8 (lv_at hl 5 rfl) ?_
  refine lv_iload_n hx hb dX9_fewestPlaces_10 rfl (lv_at hl 1 rfl) ?_
  refine lv_icmp_ge (tgt := 77) hx hb dX9_fewestPlaces_11 (by decide) (fun cc1 => ?_) (fun cc1 => ?_)
  · have h := (if_pos cc1).symm.trans h
    refine lv_iload_n hx hb dX9_fewestPlaces_77 rfl (lv_at hl 3 rfl) ?_
    obtain rfl := Option.some.inj h
    exact eI C0 hPD.1 hPD.2 hS rfl dX9_fewestPlaces_78
  · have h := (if_neg cc1).symm.trans h
    refine lv_iconst (v := 0) hx hb dX9_fewestPlaces_14 (by decide) ?_
    refine lv_istore (lv' := [(6, .int 0), (0, .ref h0), (1, .int p1), (2, .int p2), (3, .int l3), (4, .int l4), (5, .int l5)]) hx hb dX9_fewestPlaces_15 hl (by decide) rfl (fun ls hl => ?_)
    refine lv_iconst (v := 0) hx hb dX9_fewestPlaces_17 (by decide) ?_
    refine lv_istore (lv' := [(7, .int 0), (6, .int 0), (0, .ref h0), (1, .int p1), (2, .int p2), (3, .int l3), (4, .int l4), (5, .int l5)]) hx hb dX9_fewestPlaces_18 hl (by decide) rfl (fun ls hl => ?_)
    exact ww_f9_fewestPlaces_l20 C0 hk8 NF l3 l4 l5 0 0 h _ _ _ hPD hS (lv_sub hl [2, 3, 4, 5, 6, 7, 1, 0] rfl)
set_option maxRecDepth 100000 in
set_option maxHeartbeats 4000000 in
theorem ww_f9_fewestPlaces_l8  (C0 : Cx cX9_fewestPlaces 8 (some .int) RX9 p s m args meth c G DA) {h0 : Nat} {a0 : Nat → Nat} {wk : Option Nat} {f0 : Nat → Int32} {A0 : Nat → Nat → Int32} {p1 : Int32} {p2 : Int32}   {res : Int32}  : ∀ (n : Nat) (l3 : Int32) (l4 : Int32) (l5 : Int32), f9_fewestPlaces_l8 f0 A0 p1 p2  n l3 l4 l5 = some res → ∀ (H : Heap) (locs : List Loc) (ls : Array Slot), WD G DA (wX9 G h0 a0 wk f0 A0) H → va_S DA s.heap H locs → lv_has ls 8 [(0, .ref h0), (1, .int p1), (2, .int p2), (3, .int l3), (4, .int l4), (5, .int l5)] → W p l e rmX9_fewestPlaces s m args below meth c H locs 0 0 (MQ below (QI G DA res (wX9 G h0 a0 wk f0 A0)) args s 0 0 DA) (F0 m 8 ls []) := by
  intro n
  induction n with
  | zero => intro l3 l4 l5 h; cases h
  | succ n ih => intro l3 l4 l5 h; exact ww_f9_fewestPlaces_b8 C0  ih l3 l4 l5 h
set_option maxRecDepth 100000 in
set_option maxHeartbeats 4000000 in
theorem kt_X9_fewestPlaces (l : Launch) (G : Gp) (h0 : Nat) (a0 : Nat → Nat) (wk : Option Nat) (f0 : Nat → Int32) (A0 : Nat → Nat → Int32) (p1 : Int32) (p2 : Int32) : ∀ {r : Int32}, f9_fewestPlaces f0 A0 p1 p2 = some r → CtrI l yX9_fewestPlaces cX9_fewestPlaces 8 (some .int) rmX9_fewestPlaces G [.ref h0, .int p1, .int p2] (wX9 G h0 a0 wk f0 A0) r (wX9 G h0 a0 wk f0 A0) := by
  intro res h
  refine ctrI_of (cc := cX9_fewestPlaces) (maxL := 8) (ret := (some .int)) (by decide +kernel) rfl (Nat.le_of_ble_eq_true rfl) (fun p e s m below meth c DA C0 hP hD ls hl => ?_)
  have hPD : WD G DA (wX9 G h0 a0 wk f0 A0) s.heap := ⟨hP, hD⟩
  have hS : va_S DA s.heap s.heap [] := va_S.rf
  have hl : lv_has ls 8 [(0, .ref h0), (1, .int p1), (2, .int p2)] := hl
  obtain ⟨hx, hb, hml, hown, hts⟩ := C0.1
  have hK := C0.2.2.2.1
  unfold f9_fewestPlaces at h
  refine lv_iconst (v := (-1)) hx hb dX9_fewestPlaces_0 (by decide) ?_
  refine lv_istore_n (lv' := [(3, .int (-1)), (0, .ref h0), (1, .int p1), (2, .int p2)]) hx hb dX9_fewestPlaces_1 rfl hl (by decide) rfl (fun ls hl => ?_)
  refine lv_iconst (v := 0) hx hb dX9_fewestPlaces_2 (by decide) ?_
  refine lv_istore (lv' := [(4, .int 0), (3, .int (-1)), (0, .ref h0), (1, .int p1), (2, .int p2)]) hx hb dX9_fewestPlaces_3 hl (by decide) rfl (fun ls hl => ?_)
  refine lv_iconst (v := 0) hx hb dX9_fewestPlaces_5 (by decide) ?_
  refine lv_istore (lv' := [(5, .int 0), (4, .int 0), (3, .int (-1)), (0, .ref h0), (1, .int p1), (2, .int p2)]) hx hb dX9_fewestPlaces_6 hl (by decide) rfl (fun ls hl => ?_)
  exact ww_f9_fewestPlaces_l8 C0 NF (-1) 0 0 h _ _ _ hPD hS (lv_sub hl [3, 4, 5, 2, 1, 0] rfl)
end WALK
