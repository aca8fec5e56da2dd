section WALK
variable {p : Program} {l : Launch} {e : Env} {s : State} {m : MethodId} {args : Array Value} {below : List Frame} {meth : Method} {c : Code} {G : Gp} {DA : Nat → Prop}
abbrev rmX10_stepsOrFar : Room := { frames := 0, cells := 0, slots := 0, locals := 0 }
set_option maxRecDepth 100000 in
set_option maxHeartbeats 4000000 in
theorem kt_X10_stepsOrFar (l : Launch) (G : Gp) (h0 : Nat) (a0 : Nat → Nat) (f0 : Nat → Int32) (A0 : Nat → Nat → Int32) (p1 : Int32) : ∀ {r : Int32}, f10_stepsOrFar f0 A0 p1 = some r → CtrI l yX10_stepsOrFar cX10_stepsOrFar 2 (some .int) rmX10_stepsOrFar G [.ref h0, .int p1] (wX10 G h0 a0 f0 A0) r (wX10 G h0 a0 f0 A0) := by
  intro res h
  refine ctrI_of (cc := cX10_stepsOrFar) (maxL := 2) (ret := (some .int)) (by decide +kernel) rfl (Nat.le_of_ble_eq_true rfl) (fun p e s m below meth c DA C0 hP hD ls hl => ?_)
  have hPD : WD G DA (wX10 G h0 a0 f0 A0) s.heap := ⟨hP, hD⟩
  have hS : va_S DA s.heap s.heap [] := va_S.rf
  have hl : lv_has ls 2 [(0, .ref h0), (1, .int p1)] := hl
  obtain ⟨hx, hb, hml, hown, hts⟩ := C0.1
  have hK := C0.2.2.2.1
  unfold f10_stepsOrFar at h
  refine lv_aload_n hx hb dX10_stepsOrFar_0 rfl (lv_at hl 0 rfl) ?_
  refine va_get (D := G.1) (ci := 10) (v := .ref (a0 46)) (C := RX10) (T := TX10) (N := 52) hx hb hts inlX10 hown hK hPD.1 0 rfl rfl 46 (by decide) (hts _ gw_783) (fun _ h9 => h9) rfl dX10_stepsOrFar_1 ?_
  refine lv_iload_n hx hb dX10_stepsOrFar_4 rfl (lv_at hl 1 rfl) ?_
  obtain ⟨hi_1, h⟩ := ob h
  refine va_iald hx hb hK hPD.1 29 1 rfl rfl hi_1 dX10_stepsOrFar_5 ?_
  refine lv_iconst (v := (-1)) hx hb dX10_stepsOrFar_6 (by decide) ?_
  refine lv_icmp_ne (tgt := 16) hx hb dX10_stepsOrFar_7 (by decide) (fun cc1 => ?_) (fun cc1 => ?_)
  · have h := (if_neg cc1).symm.trans h
    refine lv_aload_n hx hb dX10_stepsOrFar_16 rfl (lv_at hl 0 rfl) ?_
    refine va_get (D := G.1) (ci := 10) (v := .ref (a0 46)) (C := RX10) (T := TX10) (N := 52) hx hb hts inlX10 hown hK hPD.1 0 rfl rfl 46 (by decide) (hts _ gw_783) (fun _ h9 => h9) rfl dX10_stepsOrFar_17 ?_
    refine lv_iload_n hx hb dX10_stepsOrFar_20 rfl (lv_at hl 1 rfl) ?_
    obtain ⟨hi_2, h⟩ := ob h
    refine va_iald hx hb hK hPD.1 29 1 rfl rfl hi_2 dX10_stepsOrFar_21 ?_
    obtain rfl := Option.some.inj h
    exact eI C0 hPD.1 hPD.2 hS rfl dX10_stepsOrFar_22
  · have h := (if_pos cc1).symm.trans h
    refine lv_ldcw (v := 1000000) hx hb hown (hts _ gw_808) dX10_stepsOrFar_10 ?_
    refine lv_goto (tgt := 22) hx hb dX10_stepsOrFar_13 (by decide) ?_
    obtain rfl := Option.some.inj h
    exact eI C0 hPD.1 hPD.2 hS rfl dX10_stepsOrFar_22
abbrev rmX10_alibis : Room := { frames := 2, cells := 0, slots := 0, locals := 46 }
set_option maxRecDepth 100000 in
set_option maxHeartbeats 4000000 in
theorem ww_f10_alibis_b102  (C0 : Cx cX10_alibis 11 (some .int) RX10 p s m args meth c G DA) {h0 : Nat} {a0 : Nat → Nat} {p1 : Int32} {p2 : Int32} {p3 : Int32}  {k102 : (Nat → Nat → Int32) → (Nat → Int32) → Int32 → Int32 → Option (Int32 × (Nat → Nat → Int32) × (Nat → Int32))} {res : Int32 × (Nat → Nat → Int32) × (Nat → Int32)}  (hk102 : ∀ (A0 : Nat → Nat → Int32) (f0 : Nat → Int32) (l4 : Int32) (l5 : Int32), k102 A0 f0 l4 l5 = some res → ∀ (H : Heap) (locs : List Loc) (ls : Array Slot), WD G DA (wX10 G h0 a0 f0 A0) H → va_S DA s.heap H locs → lv_has ls 11 [(0, .ref h0), (1, .int p1), (2, .int p2), (3, .int p3), (4, .int l4), (5, .int l5)] → W p l e rmX10_alibis s m args below meth c H locs 0 0 (MQ below (QI G DA res.1 (wX10 G h0 a0 res.2.2 res.2.1)) args s 0 0 DA) (F0 m 102 ls [])) : ∀ (A0 : Nat → Nat → Int32) (f0 : Nat → Int32) (l4 : Int32) (l5 : Int32), f10_alibis_b102 p1 p2 p3  k102 A0 f0 l4 l5 = some res → ∀ (H : Heap) (locs : List Loc) (ls : Array Slot), WD G DA (wX10 G h0 a0 f0 A0) H → va_S DA s.heap H locs → lv_has ls 11 [(0, .ref h0), (1, .int p1), (2, .int p2), (3, .int p3), (4, .int l4), (5, .int l5)] → W p l e rmX10_alibis s m args below meth c H locs 0 0 (MQ below (QI G DA res.1 (wX10 G h0 a0 res.2.2 res.2.1)) args s 0 0 DA) (F0 m 102 ls []) := by
  obtain ⟨hx, hb, hml, hown, hts⟩ := C0.1
  have hK := C0.2.2.2.1
  intro A0 f0 l4 l5 h _ _ _ hPD hS hl
  unfold f10_alibis_b102 at h
  refine lv_iload hx hb dX10_alibis_102 (lv_at hl 5 rfl) ?_
  refine lv_iload_n hx hb dX10_alibis_104 rfl (lv_at hl 1 rfl) ?_
  refine lv_icmp_ge (tgt := 231) hx hb dX10_alibis_105 (by decide) (fun cc1 => ?_) (fun cc1 => ?_)
  · have h := (if_pos cc1).symm.trans h
    refine lv_iload hx hb dX10_alibis_231 (lv_at hl 4 rfl) ?_
    obtain rfl := Option.some.inj h
    exact eI C0 hPD.1 hPD.2 hS rfl dX10_alibis_233
  · have h := (if_neg cc1).symm.trans h
    refine lv_aload_n hx hb dX10_alibis_108 rfl (lv_at hl 0 rfl) ?_
    refine lv_aload_n hx hb dX10_alibis_109 rfl (lv_at hl 0 rfl) ?_
    refine lv_iconst (v := 4) hx hb dX10_alibis_110 (by decide) ?_
    refine lv_iload hx hb dX10_alibis_111 (lv_at hl 5 rfl) ?_
    refine lv_imul hx hb dX10_alibis_113 ?_
    obtain ⟨q_2, hq_2, h⟩ := ob2 h
    refine kVI (As := [.int (4 * l5)]) (rest := [.ref h0]) C0 (kt_X10_octet l G h0 a0 f0 A0 (4 * l5) hq_2) gi_V_X10_360_X10_octet (n := 1) rfl (by decide +kernel) rfl ⟨rfl, rfl, Nat.le_of_ble_eq_true rfl, Nat.le_of_ble_eq_true rfl⟩ hPD hS 0 10 rfl rfl rfl [0, 1, 2, 3, 4, 5, 6, 7, 8, 9, 10, 11, 12, 13, 14, 15, 16, 17, 18, 19, 20, 21, 22, 23, 24, 25, 26, 27, 28, 29, 30, 31, 32, 33] [] [0, 1, 2, 3, 4, 5, 6, 7, 8, 9, 10, 11, 12, 13, 14, 15, 16, 17, 18, 19, 20, 21, 22, 23, 24, 25, 26, 27, 28, 29, 30, 31, 32, 33] (wr := ([] : va_W)) (wN := (wX10 G h0 a0 f0 A0)) rfl rfl rfl rfl rfl hl.1 (Nat.le_of_ble_eq_true rfl) dX10_alibis_114 (fun H locs hPD hS => ?_)
    obtain ⟨q_3, hq_3, h⟩ := ob2 h
    refine kVV (As := [.int q_2]) (rest := []) C0 (kt_X10_laysSteps l G h0 a0 f0 A0 q_2 hq_3) gi_V_X10_344_X10_laysSteps (n := 1) rfl (by decide +kernel) rfl ⟨rfl, rfl, Nat.le_of_ble_eq_true rfl, Nat.le_of_ble_eq_true rfl⟩ hPD hS 0 10 rfl rfl rfl [0, 1, 2, 3, 4, 5, 6, 7, 8, 9, 10, 11, 12, 13, 14, 15, 16, 17, 18, 19, 20, 21, 22, 23, 24, 25, 26, 27, 28, 29, 30, 31, 32, 33] [] [0, 1, 2, 3, 4, 5, 6, 7, 8, 9, 10, 11, 12, 13, 14, 15, 16, 17, 18, 19, 20, 21, 22, 23, 24, 25, 26, 27, 28, 29, 30, 31, 32, 33] (wr := ([] : va_W)) (wN := (wX10 G h0 a0 f0 q_3)) rfl rfl rfl rfl rfl hl.1 (Nat.le_of_ble_eq_true rfl) dX10_alibis_117 (fun H locs hPD hS => ?_)
    refine lv_aload_n hx hb dX10_alibis_120 rfl (lv_at hl 0 rfl) ?_
    refine lv_aload_n hx hb dX10_alibis_121 rfl (lv_at hl 0 rfl) ?_
    refine lv_iconst (v := 4) hx hb dX10_alibis_122 (by decide) ?_
    refine lv_iload hx hb dX10_alibis_123 (lv_at hl 5 rfl) ?_
    refine lv_imul hx hb dX10_alibis_125 ?_
    refine lv_iconst (v := 2) hx hb dX10_alibis_126 (by decide) ?_
    refine lv_iadd hx hb dX10_alibis_127 ?_
    obtain ⟨q_4, hq_4, h⟩ := ob2 h
    refine kVI (As := [.int ((4 * l5) + 2)]) (rest := [.ref h0]) C0 (kt_X10_octet l G h0 a0 f0 q_3 ((4 * l5) + 2) hq_4) gi_V_X10_360_X10_octet (n := 1) rfl (by decide +kernel) rfl ⟨rfl, rfl, Nat.le_of_ble_eq_true rfl, Nat.le_of_ble_eq_true rfl⟩ hPD hS 0 10 rfl rfl rfl [0, 1, 2, 3, 4, 5, 6, 7, 8, 9, 10, 11, 12, 13, 14, 15, 16, 17, 18, 19, 20, 21, 22, 23, 24, 25, 26, 27, 28, 29, 30, 31, 32, 33] [] [0, 1, 2, 3, 4, 5, 6, 7, 8, 9, 10, 11, 12, 13, 14, 15, 16, 17, 18, 19, 20, 21, 22, 23, 24, 25, 26, 27, 28, 29, 30, 31, 32, 33] (wr := ([] : va_W)) (wN := (wX10 G h0 a0 f0 q_3)) rfl rfl rfl rfl rfl hl.1 (Nat.le_of_ble_eq_true rfl) dX10_alibis_128 (fun H locs hPD hS => ?_)
    obtain ⟨q_5, hq_5, h⟩ := ob2 h
    refine kVI (As := [.int q_4]) (rest := []) C0 (kt_X10_stepsOrFar l G h0 a0 f0 q_3 q_4 hq_5) gi_V_X10_363_X10_stepsOrFar (n := 1) rfl (by decide +kernel) rfl ⟨rfl, rfl, Nat.le_of_ble_eq_true rfl, Nat.le_of_ble_eq_true rfl⟩ hPD hS 0 10 rfl rfl rfl [0, 1, 2, 3, 4, 5, 6, 7, 8, 9, 10, 11, 12, 13, 14, 15, 16, 17, 18, 19, 20, 21, 22, 23, 24, 25, 26, 27, 28, 29, 30, 31, 32, 33] [] [0, 1, 2, 3, 4, 5, 6, 7, 8, 9, 10, 11, 12, 13, 14, 15, 16, 17, 18, 19, 20, 21, 22, 23, 24, 25, 26, 27, 28, 29, 30, 31, 32, 33] (wr := ([] : va_W)) (wN := (wX10 G h0 a0 f0 q_3)) rfl rfl rfl rfl rfl hl.1 (Nat.le_of_ble_eq_true rfl) dX10_alibis_131 (fun H locs hPD hS => ?_)
    refine lv_istore (lv' := [(6, .int q_5), (0, .ref h0), (1, .int p1), (2, .int p2), (3, .int p3), (4, .int l4), (5, .int l5)]) hx hb dX10_alibis_134 hl (by decide) rfl (fun ls hl => ?_)
    refine lv_aload_n hx hb dX10_alibis_136 rfl (lv_at hl 1 rfl) ?_
    refine lv_iload_n hx hb dX10_alibis_137 rfl (lv_at hl 3 rfl) ?_
    obtain ⟨q_6, hq_6, h⟩ := ob2 h
    refine kVI (As := [.int p2]) (rest := []) C0 (kt_X10_stepsOrFar l G h0 a0 f0 q_3 p2 hq_6) gi_V_X10_363_X10_stepsOrFar (n := 1) rfl (by decide +kernel) rfl ⟨rfl, rfl, Nat.le_of_ble_eq_true rfl, Nat.le_of_ble_eq_true rfl⟩ hPD hS 0 10 rfl rfl rfl [0, 1, 2, 3, 4, 5, 6, 7, 8, 9, 10, 11, 12, 13, 14, 15, 16, 17, 18, 19, 20, 21, 22, 23, 24, 25, 26, 27, 28, 29, 30, 31, 32, 33] [] [0, 1, 2, 3, 4, 5, 6, 7, 8, 9, 10, 11, 12, 13, 14, 15, 16, 17, 18, 19, 20, 21, 22, 23, 24, 25, 26, 27, 28, 29, 30, 31, 32, 33] (wr := ([] : va_W)) (wN := (wX10 G h0 a0 f0 q_3)) rfl rfl rfl rfl rfl hl.1 (Nat.le_of_ble_eq_true rfl) dX10_alibis_138 (fun H locs hPD hS => ?_)
    refine lv_istore (lv' := [(7, .int q_6), (6, .int q_5), (0, .ref h0), (1, .int p1), (2, .int p2), (3, .int p3), (4, .int l4), (5, .int l5)]) hx hb dX10_alibis_141 hl (by decide) rfl (fun ls hl => ?_)
    refine lv_aload_n hx hb dX10_alibis_143 rfl (lv_at hl 2 rfl) ?_
    refine lv_aload_n hx hb dX10_alibis_144 rfl (lv_at hl 2 rfl) ?_
    refine lv_iconst (v := 4) hx hb dX10_alibis_145 (by decide) ?_
    refine lv_iload hx hb dX10_alibis_146 (lv_at hl 7 rfl) ?_
    refine lv_imul hx hb dX10_alibis_148 ?_
    refine lv_iconst (v := 2) hx hb dX10_alibis_149 (by decide) ?_
    refine lv_iadd hx hb dX10_alibis_150 ?_
    obtain ⟨q_7, hq_7, h⟩ := ob2 h
    refine kVI (As := [.int ((4 * l5) + 2)]) (rest := [.ref h0]) C0 (kt_X10_octet l G h0 a0 f0 q_3 ((4 * l5) + 2) hq_7) gi_V_X10_360_X10_octet (n := 1) rfl (by decide +kernel) rfl ⟨rfl, rfl, Nat.le_of_ble_eq_true rfl, Nat.le_of_ble_eq_true rfl⟩ hPD hS 0 10 rfl rfl rfl [0, 1, 2, 3, 4, 5, 6, 7, 8, 9, 10, 11, 12, 13, 14, 15, 16, 17, 18, 19, 20, 21, 22, 23, 24, 25, 26, 27, 28, 29, 30, 31, 32, 33] [] [0, 1, 2, 3, 4, 5, 6, 7, 8, 9, 10, 11, 12, 13, 14, 15, 16, 17, 18, 19, 20, 21, 22, 23, 24, 25, 26, 27, 28, 29, 30, 31, 32, 33] (wr := ([] : va_W)) (wN := (wX10 G h0 a0 f0 q_3)) rfl rfl rfl rfl rfl hl.1 (Nat.le_of_ble_eq_true rfl) dX10_alibis_151 (fun H locs hPD hS => ?_)
    obtain ⟨q_8, hq_8, h⟩ := ob2 h
    refine kVV (As := [.int q_7]) (rest := []) C0 (kt_X10_laysSteps l G h0 a0 f0 q_3 q_7 hq_8) gi_V_X10_344_X10_laysSteps (n := 1) rfl (by decide +kernel) rfl ⟨rfl, rfl, Nat.le_of_ble_eq_true rfl, Nat.le_of_ble_eq_true rfl⟩ hPD hS 0 10 rfl rfl rfl [0, 1, 2, 3, 4, 5, 6, 7, 8, 9, 10, 11, 12, 13, 14, 15, 16, 17, 18, 19, 20, 21, 22, 23, 24, 25, 26, 27, 28, 29, 30, 31, 32, 33] [] [0, 1, 2, 3, 4, 5, 6, 7, 8, 9, 10, 11, 12, 13, 14, 15, 16, 17, 18, 19, 20, 21, 22, 23, 24, 25, 26, 27, 28, 29, 30, 31, 32, 33] (wr := ([] : va_W)) (wN := (wX10 G h0 a0 f0 q_8)) rfl rfl rfl rfl rfl hl.1 (Nat.le_of_ble_eq_true rfl) dX10_alibis_154 (fun H locs hPD hS => ?_)
    refine lv_aload_n hx hb dX10_alibis_157 rfl (lv_at hl 2 rfl) ?_
    refine lv_iload_n hx hb dX10_alibis_158 rfl (lv_at hl 4 rfl) ?_
    obtain ⟨q_9, hq_9, h⟩ := ob2 h
    refine kVI (As := [.int p2]) (rest := []) C0 (kt_X10_stepsOrFar l G h0 a0 f0 q_8 p2 hq_9) gi_V_X10_363_X10_stepsOrFar (n := 1) rfl (by decide +kernel) rfl ⟨rfl, rfl, Nat.le_of_ble_eq_true rfl, Nat.le_of_ble_eq_true rfl⟩ hPD hS 0 10 rfl rfl rfl [0, 1, 2, 3, 4, 5, 6, 7, 8, 9, 10, 11, 12, 13, 14, 15, 16, 17, 18, 19, 20, 21, 22, 23, 24, 25, 26, 27, 28, 29, 30, 31, 32, 33] [] [0, 1, 2, 3, 4, 5, 6, 7, 8, 9, 10, 11, 12, 13, 14, 15, 16, 17, 18, 19, 20, 21, 22, 23, 24, 25, 26, 27, 28, 29, 30, 31, 32, 33] (wr := ([] : va_W)) (wN := (wX10 G h0 a0 f0 q_8)) rfl rfl rfl rfl rfl hl.1 (Nat.le_of_ble_eq_true rfl) dX10_alibis_159 (fun H locs hPD hS => ?_)
    refine lv_istore (lv' := [(8, .int q_9), (7, .int q_6), (6, .int q_5), (0, .ref h0), (1, .int p1), (2, .int p2), (3, .int p3), (4, .int l4), (5, .int l5)]) hx hb dX10_alibis_162 hl (by decide) rfl (fun ls hl => ?_)
    refine lv_aload_n hx hb dX10_alibis_164 rfl (lv_at hl 3 rfl) ?_
    refine lv_iconst (v := 4) hx hb dX10_alibis_165 (by decide) ?_
    refine lv_iload hx hb dX10_alibis_166 (lv_at hl 8 rfl) ?_
    refine lv_imul hx hb dX10_alibis_168 ?_
    refine lv_iconst (v := 1) hx hb dX10_alibis_169 (by decide) ?_
    refine lv_iadd hx hb dX10_alibis_170 ?_
    obtain ⟨q_10, hq_10, h⟩ := ob2 h
    refine kVI (As := [.int ((4 * l5) + 1)]) (rest := []) C0 (kt_X10_octet l G h0 a0 f0 q_8 ((4 * l5) + 1) hq_10) gi_V_X10_360_X10_octet (n := 1) rfl (by decide +kernel) rfl ⟨rfl, rfl, Nat.le_of_ble_eq_true rfl, Nat.le_of_ble_eq_true rfl⟩ hPD hS 0 10 rfl rfl rfl [0, 1, 2, 3, 4, 5, 6, 7, 8, 9, 10, 11, 12, 13, 14, 15, 16, 17, 18, 19, 20, 21, 22, 23, 24, 25, 26, 27, 28, 29, 30, 31, 32, 33] [] [0, 1, 2, 3, 4, 5, 6, 7, 8, 9, 10, 11, 12, 13, 14, 15, 16, 17, 18, 19, 20, 21, 22, 23, 24, 25, 26, 27, 28, 29, 30, 31, 32, 33] (wr := ([] : va_W)) (wN := (wX10 G h0 a0 f0 q_8)) rfl rfl rfl rfl rfl hl.1 (Nat.le_of_ble_eq_true rfl) dX10_alibis_171 (fun H locs hPD hS => ?_)
    refine lv_istore (lv' := [(9, .int q_10), (8, .int q_9), (7, .int q_6), (6, .int q_5), (0, .ref h0), (1, .int p1), (2, .int p2), (3, .int p3), (4, .int l4), (5, .int l5)]) hx hb dX10_alibis_174 hl (by decide) rfl (fun ls hl => ?_)
    refine lv_aload_n hx hb dX10_alibis_176 rfl (lv_at hl 4 rfl) ?_
    refine lv_iconst (v := 4) hx hb dX10_alibis_177 (by decide) ?_
    refine lv_iload hx hb dX10_alibis_178 (lv_at hl 9 rfl) ?_
    refine lv_imul hx hb dX10_alibis_180 ?_
    refine lv_iconst (v := 3) hx hb dX10_alibis_181 (by decide) ?_
    refine lv_iadd hx hb dX10_alibis_182 ?_
    obtain ⟨q_11, hq_11, h⟩ := ob2 h
    refine kVI (As := [.int ((4 * l5) + 3)]) (rest := []) C0 (kt_X10_octet l G h0 a0 f0 q_8 ((4 * l5) + 3) hq_11) gi_V_X10_360_X10_octet (n := 1) rfl (by decide +kernel) rfl ⟨rfl, rfl, Nat.le_of_ble_eq_true rfl, Nat.le_of_ble_eq_true rfl⟩ hPD hS 0 10 rfl rfl rfl [0, 1, 2, 3, 4, 5, 6, 7, 8, 9, 10, 11, 12, 13, 14, 15, 16, 17, 18, 19, 20, 21, 22, 23, 24, 25, 26, 27, 28, 29, 30, 31, 32, 33] [] [0, 1, 2, 3, 4, 5, 6, 7, 8, 9, 10, 11, 12, 13, 14, 15, 16, 17, 18, 19, 20, 21, 22, 23, 24, 25, 26, 27, 28, 29, 30, 31, 32, 33] (wr := ([] : va_W)) (wN := (wX10 G h0 a0 f0 q_8)) rfl rfl rfl rfl rfl hl.1 (Nat.le_of_ble_eq_true rfl) dX10_alibis_183 (fun H locs hPD hS => ?_)
    refine lv_istore (lv' := [(10, .int q_11), (9, .int q_10), (8, .int q_9), (7, .int q_6), (6, .int q_5), (0, .ref h0), (1, .int p1), (2, .int p2), (3, .int p3), (4, .int l4), (5, .int l5)]) hx hb dX10_alibis_186 hl (by decide) rfl (fun ls hl => ?_)
    refine lv_iload hx hb dX10_alibis_188 (lv_at hl 4 rfl) ?_
    refine lv_iload hx hb dX10_alibis_190 (lv_at hl 0 rfl) ?_
    refine lv_iload hx hb dX10_alibis_192 (lv_at hl 1 rfl) ?_
    refine lv_isub hx hb dX10_alibis_194 ?_
    refine lv_icmp_gt (tgt := 225) hx hb dX10_alibis_195 (by decide) (fun cc1 => ?_) (fun cc1 => ?_)
    · have h := (if_pos cc1).symm.trans h
      refine lv_iinc (v := l5 + 1) (lv' := [(5, .int (l5 + 1)), (10, .int q_11), (9, .int q_10), (8, .int q_9), (7, .int q_6), (6, .int q_5), (0, .ref h0), (1, .int p1), (2, .int p2), (3, .int p3), (4, .int l4)]) hx hb dX10_alibis_225 hl (k := 10) rfl rfl (by decide) rfl (fun ls hl => ?_)
      refine lv_goto (tgt := 102) hx hb dX10_alibis_228 (by decide) ?_
      exact hk102 q_8 f0 l4 (l5 + 1) h _ _ _ hPD hS (lv_sub hl [6, 7, 8, 9, 10, 0] rfl)
    · have h := (if_neg cc1).symm.trans h
      refine lv_iload hx hb dX10_alibis_198 (lv_at hl 3 rfl) ?_
      refine lv_iload_n hx hb dX10_alibis_200 rfl (lv_at hl 8 rfl) ?_
      refine lv_iload hx hb dX10_alibis_201 (lv_at hl 1 rfl) ?_
      refine lv_isub hx hb dX10_alibis_203 ?_
      refine lv_icmp_gt (tgt := 225) hx hb dX10_alibis_204 (by decide) (fun cc1 => ?_) (fun cc1 => ?_)
      · have h := (if_pos cc1).symm.trans h
        refine lv_iinc (v := l5 + 1) (lv' := [(5, .int (l5 + 1)), (10, .int q_11), (9, .int q_10), (8, .int q_9), (7, .int q_6), (6, .int q_5), (0, .ref h0), (1, .int p1), (2, .int p2), (3, .int p3), (4, .int l4)]) hx hb dX10_alibis_225 hl (k := 10) rfl rfl (by decide) rfl (fun ls hl => ?_)
        refine lv_goto (tgt := 102) hx hb dX10_alibis_228 (by decide) ?_
        exact hk102 q_8 f0 l4 (l5 + 1) h _ _ _ hPD hS (lv_sub hl [6, 7, 8, 9, 10, 0] rfl)
      · have h := (if_neg cc1).symm.trans h
        refine lv_iload hx hb dX10_alibis_207 (lv_at hl 2 rfl) ?_
        refine lv_iload hx hb dX10_alibis_209 (lv_at hl 0 rfl) ?_
        refine lv_iload_n hx hb dX10_alibis_211 rfl (lv_at hl 8 rfl) ?_
        refine lv_isub hx hb dX10_alibis_212 ?_
        refine lv_icmp_gt (tgt := 225) hx hb dX10_alibis_213 (by decide) (fun cc1 => ?_) (fun cc1 => ?_)
        · have h := (if_pos cc1).symm.trans h
          refine lv_iinc (v := l5 + 1) (lv' := [(5, .int (l5 + 1)), (10, .int q_11), (9, .int q_10), (8, .int q_9), (7, .int q_6), (6, .int q_5), (0, .ref h0), (1, .int p1), (2, .int p2), (3, .int p3), (4, .int l4)]) hx hb dX10_alibis_225 hl (k := 10) rfl rfl (by decide) rfl (fun ls hl => ?_)
          refine lv_goto (tgt := 102) hx hb dX10_alibis_228 (by decide) ?_
          exact hk102 q_8 f0 l4 (l5 + 1) h _ _ _ hPD hS (lv_sub hl [6, 7, 8, 9, 10, 0] rfl)
        · have h := (if_neg cc1).symm.trans h
          refine lv_iload hx hb dX10_alibis_216 (lv_at hl 9 rfl) ?_
          refine lv_iconst (v := 1) hx hb dX10_alibis_218 (by decide) ?_
          refine lv_iload hx hb dX10_alibis_219 (lv_at hl 10 rfl) ?_
          refine lv_ishl hx hb dX10_alibis_221 ?_
          refine lv_ior hx hb dX10_alibis_222 ?_
          refine lv_istore (lv' := [(4, .int (l4 ||| (shl 1 l5))), (10, .int q_11), (9, .int q_10), (8, .int q_9), (7, .int q_6), (6, .int q_5), (0, .ref h0), (1, .int p1), (2, .int p2), (3, .int p3), (5, .int l5)]) hx hb dX10_alibis_223 hl (by decide) rfl (fun ls hl => ?_)
          refine lv_iinc (v := l5 + 1) (lv' := [(5, .int (l5 + 1)), (4, .int (l4 ||| (shl 1 l5))), (10, .int q_11), (9, .int q_10), (8, .int q_9), (7, .int q_6), (6, .int q_5), (0, .ref h0), (1, .int p1), (2, .int p2), (3, .int p3)]) hx hb dX10_alibis_225 hl (k := 10) rfl rfl (by decide) rfl (fun ls hl => ?_)
          refine lv_goto (tgt := 102) hx hb dX10_alibis_228 (by decide) ?_
          exact hk102 q_8 f0 (l4 ||| (shl 1 l5)) (l5 + 1) h _ _ _ hPD hS (lv_sub hl [7, 8, 9, 10, 1, 0] rfl)
set_option maxRecDepth 100000 in
set_option maxHeartbeats 4000000 in
theorem ww_f10_alibis_l102  (C0 : Cx cX10_alibis 11 (some .int) RX10 p s m args meth c G DA) {h0 : Nat} {a0 : Nat → Nat} {p1 : Int32} {p2 : Int32} {p3 : Int32}   {res : Int32 × (Nat → Nat → Int32) × (Nat → Int32)}  : ∀ (n : Nat) (A0 : Nat → Nat → Int32) (f0 : Nat → Int32) (l4 : Int32) (l5 : Int32), f10_alibis_l102 p1 p2 p3  n A0 f0 l4 l5 = some res → ∀ (H : Heap) (locs : List Loc) (ls : Array Slot), WD G DA (wX10 G h0 a0 f0 A0) H → va_S DA s.heap H locs → lv_has ls 11 [(0, .ref h0), (1, .int p1), (2, .int p2), (3, .int p3), (4, .int l4), (5, .int l5)] → W p l e rmX10_alibis s m args below meth c H locs 0 0 (MQ below (QI G DA res.1 (wX10 G h0 a0 res.2.2 res.2.1)) args s 0 0 DA) (F0 m 102 ls []) := by
  intro n
  induction n with
  | zero => intro A0 f0 l4 l5 h; cases h
  | succ n ih => intro A0 f0 l4 l5 h; exact ww_f10_alibis_b102 C0  ih A0 f0 l4 l5 h
set_option maxRecDepth 100000 in
set_option maxHeartbeats 4000000 in
theorem ww_f10_alibis_b49  (C0 : Cx cX10_alibis 11 (some .int) RX10 p s m args meth c G DA) {h0 : Nat} {a0 : Nat → Nat} {p1 : Int32} {p2 : Int32} {p3 : Int32}  {k49 : (Nat → Nat → Int32) → (Nat → Int32) → Int32 → Option (Int32 × (Nat → Nat → Int32) × (Nat → Int32))} {res : Int32 × (Nat → Nat → Int32) × (Nat → Int32)}  (hk49 : ∀ (A0 : Nat → Nat → Int32) (f0 : Nat → Int32) (l4 : Int32), k49 A0 f0 l4 = some res → ∀ (H : Heap) (locs : List Loc) (ls : Array Slot), WD G DA (wX10 G h0 a0 f0 A0) H → va_S DA s.heap H locs → lv_has ls 11 [(0, .ref h0), (1, .int p1), (2, .int p2), (3, .int p3), (4, .int l4)] → W p l e rmX10_alibis s m args below meth c H locs 0 0 (MQ below (QI G DA res.1 (wX10 G h0 a0 res.2.2 res.2.1)) args s 0 0 DA) (F0 m 49 ls [])) : ∀ (A0 : Nat → Nat → Int32) (f0 : Nat → Int32) (l4 : Int32), f10_alibis_b49 p1 p2 p3  k49 A0 f0 l4 = some res → ∀ (H : Heap) (locs : List Loc) (ls : Array Slot), WD G DA (wX10 G h0 a0 f0 A0) H → va_S DA s.heap H locs → lv_has ls 11 [(0, .ref h0), (1, .int p1), (2, .int p2), (3, .int p3), (4, .int l4)] → W p l e rmX10_alibis s m args below meth c H locs 0 0 (MQ below (QI G DA res.1 (wX10 G h0 a0 res.2.2 res.2.1)) args s 0 0 DA) (F0 m 49 ls []) := by
  obtain ⟨hx, hb, hml, hown, hts⟩ := C0.1
  have hK := C0.2.2.2.1
  intro A0 f0 l4 h _ _ _ hPD hS hl
  unfold f10_alibis_b49 at h
  refine lv_iload hx hb dX10_alibis_49 (lv_at hl 4 rfl) ?_
  refine lv_iload_n hx hb dX10_alibis_51 rfl (lv_at hl 1 rfl) ?_
  refine lv_icmp_ge (tgt := 96) hx hb dX10_alibis_52 (by decide) (fun cc1 => ?_) (fun cc1 => ?_)
  · have h := (if_pos cc1).symm.trans h
    refine lv_iconst (v := 0) hx hb dX10_alibis_96 (by decide) ?_
    refine lv_istore (lv' := [(4, .int 0), (0, .ref h0), (1, .int p1), (2, .int p2), (3, .int p3)]) hx hb dX10_alibis_97 hl (by decide) rfl (fun ls hl => ?_)
    refine lv_iconst (v := 0) hx hb dX10_alibis_99 (by decide) ?_
    refine lv_istore (lv' := [(5, .int 0), (4, .int 0), (0, .ref h0), (1, .int p1), (2, .int p2), (3, .int p3)]) hx hb dX10_alibis_100 hl (by decide) rfl (fun ls hl => ?_)
    exact ww_f10_alibis_l102 C0 NF A0 f0 0 0 h _ _ _ hPD hS (lv_sub hl [2, 3, 4, 5, 1, 0] rfl)
  · have h := (if_neg cc1).symm.trans h
    refine lv_aload_n hx hb dX10_alibis_55 rfl (lv_at hl 0 rfl) ?_
    refine lv_aload_n hx hb dX10_alibis_56 rfl (lv_at hl 0 rfl) ?_
    refine lv_iconst (v := 4) hx hb dX10_alibis_57 (by decide) ?_
    refine lv_iload hx hb dX10_alibis_58 (lv_at hl 4 rfl) ?_
    refine lv_imul hx hb dX10_alibis_60 ?_
    obtain ⟨q_12, hq_12, h⟩ := ob2 h
    refine kVI (As := [.int (4 * l4)]) (rest := [.ref h0]) C0 (kt_X10_octet l G h0 a0 f0 A0 (4 * l4) hq_12) gi_V_X10_360_X10_octet (n := 1) rfl (by decide +kernel) rfl ⟨rfl, rfl, Nat.le_of_ble_eq_true rfl, Nat.le_of_ble_eq_true rfl⟩ hPD hS 0 10 rfl rfl rfl [0, 1, 2, 3, 4, 5, 6, 7, 8, 9, 10, 11, 12, 13, 14, 15, 16, 17, 18, 19, 20, 21, 22, 23, 24, 25, 26, 27, 28, 29, 30, 31, 32, 33] [] [0, 1, 2, 3, 4, 5, 6, 7, 8, 9, 10, 11, 12, 13, 14, 15, 16, 17, 18, 19, 20, 21, 22, 23, 24, 25, 26, 27, 28, 29, 30, 31, 32, 33] (wr := ([] : va_W)) (wN := (wX10 G h0 a0 f0 A0)) rfl rfl rfl rfl rfl hl.1 (Nat.le_of_ble_eq_true rfl) dX10_alibis_61 (fun H locs hPD hS => ?_)
    refine kVI (As := [.int q_12]) (rest := []) C0 (kt_X10_isTold l G h0 a0 f0 A0 q_12) gi_V_X10_128_X10_isTold (n := 1) rfl (by decide +kernel) rfl ⟨rfl, rfl, Nat.le_of_ble_eq_true rfl, Nat.le_of_ble_eq_true rfl⟩ hPD hS 0 10 rfl rfl rfl [0, 1, 2, 3, 4, 5, 6, 7, 8, 9, 10, 11, 12, 13, 14, 15, 16, 17, 18, 19, 20, 21, 22, 23, 24, 25, 26, 27, 28, 29, 30, 31, 32, 33] [] [0, 1, 2, 3, 4, 5, 6, 7, 8, 9, 10, 11, 12, 13, 14, 15, 16, 17, 18, 19, 20, 21, 22, 23, 24, 25, 26, 27, 28, 29, 30, 31, 32, 33] (wr := ([] : va_W)) (wN := (wX10 G h0 a0 f0 A0)) rfl rfl rfl rfl rfl hl.1 (Nat.le_of_ble_eq_true rfl) dX10_alibis_64 (fun H locs hPD hS => ?_)
    refine lv_if_eq (tgt := 87) hx hb dX10_alibis_67 (by decide) (fun cc1 => ?_) (fun cc1 => ?_)
    · have h := (if_pos cc1).symm.trans h
      refine lv_bipush (v := (-2)) hx hb dX10_alibis_87 (by decide) ?_
      obtain rfl := Option.some.inj h
      exact eI C0 hPD.1 hPD.2 hS rfl dX10_alibis_89
    · have h := (if_neg cc1).symm.trans h
      refine lv_aload_n hx hb dX10_alibis_70 rfl (lv_at hl 0 rfl) ?_
      refine lv_aload_n hx hb dX10_alibis_71 rfl (lv_at hl 0 rfl) ?_
      refine lv_iconst (v := 4) hx hb dX10_alibis_72 (by decide) ?_
      refine lv_iload hx hb dX10_alibis_73 (lv_at hl 4 rfl) ?_
      refine lv_imul hx hb dX10_alibis_75 ?_
      refine lv_iconst (v := 2) hx hb dX10_alibis_76 (by decide) ?_
      refine lv_iadd hx hb dX10_alibis_77 ?_
      obtain ⟨q_13, hq_13, h⟩ := ob2 h
      refine kVI (As := [.int ((4 * l4) + 2)]) (rest := [.ref h0]) C0 (kt_X10_octet l G h0 a0 f0 A0 ((4 * l4) + 2) hq_13) gi_V_X10_360_X10_octet (n := 1) rfl (by decide +kernel) rfl ⟨rfl, rfl, Nat.le_of_ble_eq_true rfl, Nat.le_of_ble_eq_true rfl⟩ hPD hS 0 10 rfl rfl rfl [0, 1, 2, 3, 4, 5, 6, 7, 8, 9, 10, 11, 12, 13, 14, 15, 16, 17, 18, 19, 20, 21, 22, 23, 24, 25, 26, 27, 28, 29, 30, 31, 32, 33] [] [0, 1, 2, 3, 4, 5, 6, 7, 8, 9, 10, 11, 12, 13, 14, 15, 16, 17, 18, 19, 20, 21, 22, 23, 24, 25, 26, 27, 28, 29, 30, 31, 32, 33] (wr := ([] : va_W)) (wN := (wX10 G h0 a0 f0 A0)) rfl rfl rfl rfl rfl hl.1 (Nat.le_of_ble_eq_true rfl) dX10_alibis_78 (fun H locs hPD hS => ?_)
      refine kVI (As := [.int q_13]) (rest := []) C0 (kt_X10_isTold l G h0 a0 f0 A0 q_13) gi_V_X10_128_X10_isTold (n := 1) rfl (by decide +kernel) rfl ⟨rfl, rfl, Nat.le_of_ble_eq_true rfl, Nat.le_of_ble_eq_true rfl⟩ hPD hS 0 10 rfl rfl rfl [0, 1, 2, 3, 4, 5, 6, 7, 8, 9, 10, 11, 12, 13, 14, 15, 16, 17, 18, 19, 20, 21, 22, 23, 24, 25, 26, 27, 28, 29, 30, 31, 32, 33] [] [0, 1, 2, 3, 4, 5, 6, 7, 8, 9, 10, 11, 12, 13, 14, 15, 16, 17, 18, 19, 20, 21, 22, 23, 24, 25, 26, 27, 28, 29, 30, 31, 32, 33] (wr := ([] : va_W)) (wN := (wX10 G h0 a0 f0 A0)) rfl rfl rfl rfl rfl hl.1 (Nat.le_of_ble_eq_true rfl) dX10_alibis_81 (fun H locs hPD hS => ?_)
      refine lv_if_ne (tgt := 90) hx hb dX10_alibis_84 (by decide) (fun cc1 => ?_) (fun cc1 => ?_)
      · have h := (if_neg cc1).symm.trans h
        refine lv_iinc (v := l4 + 1) (lv' := [(4, .int (l4 + 1)), (0, .ref h0), (1, .int p1), (2, .int p2), (3, .int p3)]) hx hb dX10_alibis_90 hl (k := 4) rfl rfl (by decide) rfl (fun ls hl => ?_)
        refine lv_goto (tgt := 49) hx hb dX10_alibis_93 (by decide) ?_
        exact hk49 A0 f0 (l4 + 1) h _ _ _ hPD hS (lv_sub hl [1, 2, 3, 4, 0] rfl)
      · have h := (if_pos cc1).symm.trans h
        refine lv_bipush (v := (-2)) hx hb dX10_alibis_87 (by decide) ?_
        obtain rfl := Option.some.inj h
        exact eI C0 hPD.1 hPD.2 hS rfl dX10_alibis_89
set_option maxRecDepth 100000 in
set_option maxHeartbeats 4000000 in
theorem ww_f10_alibis_l49  (C0 : Cx cX10_alibis 11 (some .int) RX10 p s m args meth c G DA) {h0 : Nat} {a0 : Nat → Nat} {p1 : Int32} {p2 : Int32} {p3 : Int32}   {res : Int32 × (Nat → Nat → Int32) × (Nat → Int32)}  : ∀ (n : Nat) (A0 : Nat → Nat → Int32) (f0 : Nat → Int32) (l4 : Int32), f10_alibis_l49 p1 p2 p3  n A0 f0 l4 = some res → ∀ (H : Heap) (locs : List Loc) (ls : Array Slot), WD G DA (wX10 G h0 a0 f0 A0) H → va_S DA s.heap H locs → lv_has ls 11 [(0, .ref h0), (1, .int p1), (2, .int p2), (3, .int p3), (4, .int l4)] → W p l e rmX10_alibis s m args below meth c H locs 0 0 (MQ below (QI G DA res.1 (wX10 G h0 a0 res.2.2 res.2.1)) args s 0 0 DA) (F0 m 49 ls []) := by
  intro n
  induction n with
  | zero => intro A0 f0 l4 h; cases h
  | succ n ih => intro A0 f0 l4 h; exact ww_f10_alibis_b49 C0  ih A0 f0 l4 h
set_option maxRecDepth 100000 in
set_option maxHeartbeats 4000000 in
theorem kt_X10_alibis (l : Launch) (G : Gp) (h0 : Nat) (a0 : Nat → Nat) (f0 : Nat → Int32) (A0 : Nat → Nat → Int32) (p1 : Int32) (p2 : Int32) (p3 : Int32) : ∀ {r : Int32 × (Nat → Nat → Int32) × (Nat → Int32)}, f10_alibis f0 A0 p1 p2 p3 = some r → CtrI l yX10_alibis cX10_alibis 11 (some .int) rmX10_alibis G [.ref h0, .int p1, .int p2, .int p3] (wX10 G h0 a0 f0 A0) r.1 (wX10 G h0 a0 r.2.2 r.2.1) := by
  intro res h
  refine ctrI_of (cc := cX10_alibis) (maxL := 11) (ret := (some .int)) (by decide +kernel) rfl (Nat.le_of_ble_eq_true rfl) (fun p e s m below meth c DA C0 hP hD ls hl => ?_)
  have hPD : WD G DA (wX10 G h0 a0 f0 A0) s.heap := ⟨hP, hD⟩
  have hS : va_S DA s.heap s.heap [] := va_S.rf
  have hl : lv_has ls 11 [(0, .ref h0), (1, .int p1), (2, .int p2), (3, .int p3)] := hl
  obtain ⟨hx, hb, hml, hown, hts⟩ := C0.1
  have hK := C0.2.2.2.1
  unfold f10_alibis at h
  refine lv_iload_n hx hb dX10_alibis_0 rfl (lv_at hl 1 rfl) ?_
  refine lv_iconst (v := 1) hx hb dX10_alibis_1 (by decide) ?_
  refine lv_bipush (v := 10) hx hb dX10_alibis_2 (by decide) ?_
  refine kSI (As := [.int p1, .int 1, .int 10]) (rest := []) C0 (kt_X10_in l G  p1 1 10) gi_S_X10_112_X10_in (n := 3) rfl (by decide +kernel) ⟨rfl, rfl, Nat.le_of_ble_eq_true rfl, Nat.le_of_ble_eq_true rfl⟩ hPD hS [] [0, 1, 2, 3, 4, 5, 6, 7, 8, 9, 10, 11, 12, 13, 14, 15, 16, 17, 18, 19, 20, 21, 22, 23, 24, 25, 26, 27, 28, 29, 30, 31, 32, 33] [0, 1, 2, 3, 4, 5, 6, 7, 8, 9, 10, 11, 12, 13, 14, 15, 16, 17, 18, 19, 20, 21, 22, 23, 24, 25, 26, 27, 28, 29, 30, 31, 32, 33] (wr := (wX10 G h0 a0 f0 A0)) (wN := (wX10 G h0 a0 f0 A0)) rfl rfl rfl rfl rfl hl.1 (Nat.le_of_ble_eq_true rfl) dX10_alibis_4 (fun H locs hPD hS => ?_)
  refine lv_if_eq (tgt := 39) hx hb dX10_alibis_7 (by decide) (fun cc1 => ?_) (fun cc1 => ?_)
  · have h := (if_pos cc1).symm.trans h
    refine lv_iconst (v := (-1)) hx hb dX10_alibis_39 (by decide) ?_
    obtain rfl := Option.some.inj h
    exact eI C0 hPD.1 hPD.2 hS rfl dX10_alibis_40
  · have h := (if_neg cc1).symm.trans h
    refine lv_aload_n hx hb dX10_alibis_10 rfl (lv_at hl 0 rfl) ?_
    refine lv_iload_n hx hb dX10_alibis_11 rfl (lv_at hl 2 rfl) ?_
    refine kVI (As := [.int p2]) (rest := []) C0 (kt_X10_isTold l G h0 a0 f0 A0 p2) gi_V_X10_128_X10_isTold (n := 1) rfl (by decide +kernel) rfl ⟨rfl, rfl, Nat.le_of_ble_eq_true rfl, Nat.le_of_ble_eq_true rfl⟩ hPD hS 0 10 rfl rfl rfl [0, 1, 2, 3, 4, 5, 6, 7, 8, 9, 10, 11, 12, 13, 14, 15, 16, 17, 18, 19, 20, 21, 22, 23, 24, 25, 26, 27, 28, 29, 30, 31, 32, 33] [] [0, 1, 2, 3, 4, 5, 6, 7, 8, 9, 10, 11, 12, 13, 14, 15, 16, 17, 18, 19, 20, 21, 22, 23, 24, 25, 26, 27, 28, 29, 30, 31, 32, 33] (wr := ([] : va_W)) (wN := (wX10 G h0 a0 f0 A0)) rfl rfl rfl rfl rfl hl.1 (Nat.le_of_ble_eq_true rfl) dX10_alibis_12 (fun H locs hPD hS => ?_)
    refine lv_if_eq (tgt := 39) hx hb dX10_alibis_15 (by decide) (fun cc1 => ?_) (fun cc1 => ?_)
    · have h := (if_pos cc1).symm.trans h
      refine lv_iconst (v := (-1)) hx hb dX10_alibis_39 (by decide) ?_
      obtain rfl := Option.some.inj h
      exact eI C0 hPD.1 hPD.2 hS rfl dX10_alibis_40
    · have h := (if_neg cc1).symm.trans h
      refine lv_iload_n hx hb dX10_alibis_18 rfl (lv_at hl 3 rfl) ?_
      refine lv_iconst (v := 0) hx hb dX10_alibis_19 (by decide) ?_
      refine lv_sipush (v := 255) hx hb dX10_alibis_20 (by decide) ?_
      refine kSI (As := [.int p3, .int 0, .int 255]) (rest := []) C0 (kt_X10_in l G  p3 0 255) gi_S_X10_112_X10_in (n := 3) rfl (by decide +kernel) ⟨rfl, rfl, Nat.le_of_ble_eq_true rfl, Nat.le_of_ble_eq_true rfl⟩ hPD hS [] [0, 1, 2, 3, 4, 5, 6, 7, 8, 9, 10, 11, 12, 13, 14, 15, 16, 17, 18, 19, 20, 21, 22, 23, 24, 25, 26, 27, 28, 29, 30, 31, 32, 33] [0, 1, 2, 3, 4, 5, 6, 7, 8, 9, 10, 11, 12, 13, 14, 15, 16, 17, 18, 19, 20, 21, 22, 23, 24, 25, 26, 27, 28, 29, 30, 31, 32, 33] (wr := (wX10 G h0 a0 f0 A0)) (wN := (wX10 G h0 a0 f0 A0)) rfl rfl rfl rfl rfl hl.1 (Nat.le_of_ble_eq_true rfl) dX10_alibis_23 (fun H locs hPD hS => ?_)
      refine lv_if_eq (tgt := 39) hx hb dX10_alibis_26 (by decide) (fun cc1 => ?_) (fun cc1 => ?_)
      · have h := (if_pos cc1).symm.trans h
        refine lv_iconst (v := (-1)) hx hb dX10_alibis_39 (by decide) ?_
        obtain rfl := Option.some.inj h
        exact eI C0 hPD.1 hPD.2 hS rfl dX10_alibis_40
      · have h := (if_neg cc1).symm.trans h
        refine lv_iconst (v := 4) hx hb dX10_alibis_29 (by decide) ?_
        refine lv_iload_n hx hb dX10_alibis_30 rfl (lv_at hl 1 rfl) ?_
        refine lv_imul hx hb dX10_alibis_31 ?_
        refine lv_aload_n hx hb dX10_alibis_32 rfl (lv_at hl 0 rfl) ?_
        refine va_get (D := G.1) (ci := 10) (v := .int (f0 8)) (C := RX10) (T := TX10) (N := 52) hx hb hts inlX10 hown hK hPD.1 0 rfl rfl 8 (by decide) (hts _ gw_546) (fun _ h9 => h9) rfl dX10_alibis_33 ?_
        refine lv_icmp_le (tgt := 41) hx hb dX10_alibis_36 (by decide) (fun cc1 => ?_) (fun cc1 => ?_)
        · have h := (if_pos cc1).symm.trans h
          refine lv_aload_n hx hb dX10_alibis_41 rfl (lv_at hl 0 rfl) ?_
          refine lv_iconst (v := 0) hx hb dX10_alibis_42 (by decide) ?_
          refine va_put (D := G.1) (ci := 10) (v := .int 0) (ty := .int) (C := RX10) (T := TX10) (N := 52) hx hb hts inlX10 tyX10 tyX10_ok nmX10 hown hK hPD.1 hPD.2 hS 0 rfl rfl 8 (by decide) (hts _ gw_546) (fun _ h9 => h9) rfl (by decide +kernel) rfl rfl (Nat.le_of_ble_eq_true rfl) dX10_alibis_43 (fun H locs hP hD hS => ?_)
          obtain ⟨f0_1, ef0_1, h⟩ := lvl h
          have hPD : WD G DA (wX10 G h0 a0 f0_1 A0) H := by rw [ef0_1]; exact ⟨hP, hD⟩
          clear ef0_1 hP hD
          refine lv_iconst (v := 0) hx hb dX10_alibis_46 (by decide) ?_
          refine lv_istore (lv' := [(4, .int 0), (0, .ref h0), (1, .int p1), (2, .int p2), (3, .int p3)]) hx hb dX10_alibis_47 hl (by decide) rfl (fun ls hl => ?_)
          exact ww_f10_alibis_l49 C0 NF A0 f0_1 0 h _ _ _ hPD hS (lv_sub hl [1, 2, 3, 4, 0] rfl)
        · have h := (if_neg cc1).symm.trans h
          refine lv_iconst (v := (-1)) hx hb dX10_alibis_39 (by decide) ?_
          obtain rfl := Option.some.inj h
          exact eI C0 hPD.1 hPD.2 hS rfl dX10_alibis_40
abbrev rmX10_laysRanks : Room := { frames := 1, cells := 0, slots := 0, locals := 21 }
set_option maxRecDepth 100000 in
set_option maxHeartbeats 4000000 in
theorem ww_f10_laysRanks_b13  (C0 : Cx cX10_laysRanks 7 (some .boolean) RX10 p s m args meth c G DA) {h0 : Nat} {a0 : Nat → Nat} {f0 : Nat → Int32} {p1 : Int32} {p2 : Int32}  {k2 : (Nat → Nat → Int32) → Int32 → Option (Int32 × (Nat → Nat → Int32))} {k13 : (Nat → Nat → Int32) → Int32 → Int32 → Int32 → Option (Int32 × (Nat → Nat → Int32))} {res : Int32 × (Nat → Nat → Int32)} (hk2 : ∀ (A0 : Nat → Nat → Int32) (l3 : Int32), k2 A0 l3 = some res → ∀ (H : Heap) (locs : List Loc) (ls : Array Slot), WD G DA (wX10 G h0 a0 f0 A0) H → va_S DA s.heap H locs → lv_has ls 7 [(0, .ref h0), (1, .int p1), (2, .int p2), (3, .int l3)] → W p l e rmX10_laysRanks s m args below meth c H locs 0 0 (MQ below (QI G DA res.1 (wX10 G h0 a0 f0 res.2)) args s 0 0 DA) (F0 m 2 ls [])) (hk13 : ∀ (A0 : Nat → Nat → Int32) (l3 : Int32) (l4 : Int32) (l5 : Int32), k13 A0 l3 l4 l5 = some res → ∀ (H : Heap) (locs : List Loc) (ls : Array Slot), WD G DA (wX10 G h0 a0 f0 A0) H → va_S DA s.heap H locs → lv_has ls 7 [(0, .ref h0), (1, .int p1), (2, .int p2), (3, .int l3), (4, .int l4), (5, .int l5)] → W p l e rmX10_laysRanks s m args below meth c H locs 0 0 (MQ below (QI G DA res.1 (wX10 G h0 a0 f0 res.2)) args s 0 0 DA) (F0 m 13 ls [])) : ∀ (A0 : Nat → Nat → Int32) (l3 : Int32) (l4 : Int32) (l5 : Int32), f10_laysRanks_b13 f0 p1 p2 k2 k13 A0 l3 l4 l5 = some res → ∀ (H : Heap) (locs : List Loc) (ls : Array Slot), WD G DA (wX10 G h0 a0 f0 A0) H → va_S DA s.heap H locs → lv_has ls 7 [(0, .ref h0), (1, .int p1), (2, .int p2), (3, .int l3), (4, .int l4), (5, .int l5)] → W p l e rmX10_laysRanks s m args below meth c H locs 0 0 (MQ below (QI G DA res.1 (wX10 G h0 a0 f0 res.2)) args s 0 0 DA) (F0 m 13 ls []) := by
  obtain ⟨hx, hb, hml, hown, hts⟩ := C0.1
  have hK := C0.2.2.2.1
  intro A0 l3 l4 l5 h _ _ _ hPD hS hl
  unfold f10_laysRanks_b13 at h
  refine lv_iload hx hb dX10_laysRanks_13 (lv_at hl 5 rfl) ?_
  refine lv_iload_n hx hb dX10_laysRanks_15 rfl (lv_at hl 1 rfl) ?_
  refine lv_icmp_ge (tgt := 78) hx hb dX10_laysRanks_16 (by decide) (fun cc1 => ?_) (fun cc1 => ?_)
  · have h := (if_pos cc1).symm.trans h
    refine lv_iinc (v := l3 + 1) (lv' := [(3, .int (l3 + 1)), (0, .ref h0), (1, .int p1), (2, .int p2), (4, .int l4), (5, .int l5)]) hx hb dX10_laysRanks_78 hl (k := 3) rfl rfl (by decide) rfl (fun ls hl => ?_)
    refine lv_goto (tgt := 2) hx hb dX10_laysRanks_81 (by decide) ?_
    exact hk2 A0 (l3 + 1) h _ _ _ hPD hS (lv_sub hl [1, 2, 3, 0] rfl)
  · have h := (if_neg cc1).symm.trans h
    refine lv_aload_n hx hb dX10_laysRanks_19 rfl (lv_at hl 0 rfl) ?_
    refine lv_iload_n hx hb dX10_laysRanks_20 rfl (lv_at hl 1 rfl) ?_
    refine lv_iload_n hx hb dX10_laysRanks_21 rfl (lv_at hl 3 rfl) ?_
    refine lv_imul hx hb dX10_laysRanks_22 ?_
    refine lv_iload hx hb dX10_laysRanks_23 (lv_at hl 5 rfl) ?_
    refine lv_iadd hx hb dX10_laysRanks_25 ?_
    obtain ⟨q_1, hq_1, h⟩ := ob2 h
    refine kVI (As := [.int ((p1 * l3) + l5)]) (rest := []) C0 (kt_X10_octet l G h0 a0 f0 A0 ((p1 * l3) + l5) hq_1) gi_V_X10_360_X10_octet (n := 1) rfl (by decide +kernel) rfl ⟨rfl, rfl, Nat.le_of_ble_eq_true rfl, Nat.le_of_ble_eq_true rfl⟩ hPD hS 0 10 rfl rfl rfl [0, 1, 2, 3, 4, 5, 6, 7, 8, 9, 10, 11, 12, 13, 14, 15, 16, 17, 18, 19, 20, 21, 22, 23, 24, 25, 26, 27, 28, 29, 30, 31, 32, 33] [] [0, 1, 2, 3, 4, 5, 6, 7, 8, 9, 10, 11, 12, 13, 14, 15, 16, 17, 18, 19, 20, 21, 22, 23, 24, 25, 26, 27, 28, 29, 30, 31, 32, 33] (wr := ([] : va_W)) (wN := (wX10 G h0 a0 f0 A0)) rfl rfl rfl rfl rfl hl.1 (Nat.le_of_ble_eq_true rfl) dX10_laysRanks_26 (fun H locs hPD hS => ?_)
    refine lv_istore (lv' := [(6, .int q_1), (0, .ref h0), (1, .int p1), (2, .int p2), (3, .int l3), (4, .int l4), (5, .int l5)]) hx hb dX10_laysRanks_29 hl (by decide) rfl (fun ls hl => ?_)
    refine lv_iload hx hb dX10_laysRanks_31 (lv_at hl 0 rfl) ?_
    refine lv_iload_n hx hb dX10_laysRanks_33 rfl (lv_at hl 2 rfl) ?_
    refine lv_icmp_ge (tgt := 47) hx hb dX10_laysRanks_34 (by decide) (fun cc1 => ?_) (fun cc1 => ?_)
    · have h := (if_pos cc1).symm.trans h
      refine lv_iconst (v := 0) hx hb dX10_laysRanks_47 (by decide) ?_
      obtain rfl := Option.some.inj h
      exact eZ C0 hPD.1 hPD.2 hS rfl rfl dX10_laysRanks_48
    · have h := (if_neg cc1).symm.trans h
      refine lv_iload hx hb dX10_laysRanks_37 (lv_at hl 5 rfl) ?_
      refine lv_iload hx hb dX10_laysRanks_39 (lv_at hl 0 rfl) ?_
      refine kSI (As := [.int l4, .int q_1]) (rest := []) C0 (kt_X10_has l G  l4 q_1) gi_S_X10_120_X10_has (n := 2) rfl (by decide +kernel) ⟨rfl, rfl, Nat.le_of_ble_eq_true rfl, Nat.le_of_ble_eq_true rfl⟩ hPD hS [] [0, 1, 2, 3, 4, 5, 6, 7, 8, 9, 10, 11, 12, 13, 14, 15, 16, 17, 18, 19, 20, 21, 22, 23, 24, 25, 26, 27, 28, 29, 30, 31, 32, 33] [0, 1, 2, 3, 4, 5, 6, 7, 8, 9, 10, 11, 12, 13, 14, 15, 16, 17, 18, 19, 20, 21, 22, 23, 24, 25, 26, 27, 28, 29, 30, 31, 32, 33] (wr := (wX10 G h0 a0 f0 A0)) (wN := (wX10 G h0 a0 f0 A0)) rfl rfl rfl rfl rfl hl.1 (Nat.le_of_ble_eq_true rfl) dX10_laysRanks_41 (fun H locs hPD hS => ?_)
      refine lv_if_eq (tgt := 49) hx hb dX10_laysRanks_44 (by decide) (fun cc1 => ?_) (fun cc1 => ?_)
      · have h := (if_pos cc1).symm.trans h
        refine lv_iload hx hb dX10_laysRanks_49 (lv_at hl 5 rfl) ?_
        refine lv_iconst (v := 1) hx hb dX10_laysRanks_51 (by decide) ?_
        refine lv_iload hx hb dX10_laysRanks_52 (lv_at hl 0 rfl) ?_
        refine lv_ishl hx hb dX10_laysRanks_54 ?_
        refine lv_ior hx hb dX10_laysRanks_55 ?_
        refine lv_istore (lv' := [(4, .int (l4 ||| (shl 1 q_1))), (6, .int q_1), (0, .ref h0), (1, .int p1), (2, .int p2), (3, .int l3), (5, .int l5)]) hx hb dX10_laysRanks_56 hl (by decide) rfl (fun ls hl => ?_)
        refine lv_aload_n hx hb dX10_laysRanks_58 rfl (lv_at hl 2 rfl) ?_
        refine va_get (D := G.1) (ci := 10) (v := .ref (a0 50)) (C := RX10) (T := TX10) (N := 52) hx hb hts inlX10 hown hK hPD.1 0 rfl rfl 50 (by decide) (hts _ gw_817) (fun _ h9 => h9) rfl dX10_laysRanks_59 ?_
        refine lv_bipush (v := 6) hx hb dX10_laysRanks_62 (by decide) ?_
        refine lv_iload_n hx hb dX10_laysRanks_64 rfl (lv_at hl 5 rfl) ?_
        refine lv_imul hx hb dX10_laysRanks_65 ?_
        refine lv_iload hx hb dX10_laysRanks_66 (lv_at hl 1 rfl) ?_
        refine lv_iadd hx hb dX10_laysRanks_68 ?_
        refine lv_iload hx hb dX10_laysRanks_69 (lv_at hl 6 rfl) ?_
        obtain ⟨hi_2, h⟩ := ob h
        refine va_iast hx hb hK hPD.1 hPD.2 hS 33 1 rfl rfl hi_2 dX10_laysRanks_71 (fun H locs hP hD hS => ?_)
        obtain ⟨A0_3, eA0_3, h⟩ := lvl h
        have hPD : WD G DA (wX10 G h0 a0 f0 A0_3) H := by rw [eA0_3]; exact ⟨hP, hD⟩
        clear eA0_3 hP hD
        refine lv_iinc (v := l5 + 1) (lv' := [(5, .int (l5 + 1)), (4, .int (l4 ||| (shl 1 q_1))), (6, .int q_1), (0, .ref h0), (1, .int p1), (2, .int p2), (3, .int l3)]) hx hb dX10_laysRanks_72 hl (k := 6) rfl rfl (by decide) rfl (fun ls hl => ?_)
        refine lv_goto (tgt := 13) hx hb dX10_laysRanks_75 (by decide) ?_
        exact hk13 A0_3 l3 (l4 ||| (shl 1 q_1)) (l5 + 1) h _ _ _ hPD hS (lv_sub hl [3, 4, 5, 6, 1, 0] rfl)
      · have h := (if_neg cc1).symm.trans h
        refine lv_iconst (v := 0) hx hb dX10_laysRanks_47 (by decide) ?_
        obtain rfl := Option.some.inj h
        exact eZ C0 hPD.1 hPD.2 hS rfl rfl dX10_laysRanks_48
set_option maxRecDepth 100000 in
set_option maxHeartbeats 4000000 in
theorem ww_f10_laysRanks_l13  (C0 : Cx cX10_laysRanks 7 (some .boolean) RX10 p s m args meth c G DA) {h0 : Nat} {a0 : Nat → Nat} {f0 : Nat → Int32} {p1 : Int32} {p2 : Int32}  {k2 : (Nat → Nat → Int32) → Int32 → Option (Int32 × (Nat → Nat → Int32))} {res : Int32 × (Nat → Nat → Int32)} (hk2 : ∀ (A0 : Nat → Nat → Int32) (l3 : Int32), k2 A0 l3 = some res → ∀ (H : Heap) (locs : List Loc) (ls : Array Slot), WD G DA (wX10 G h0 a0 f0 A0) H → va_S DA s.heap H locs → lv_has ls 7 [(0, .ref h0), (1, .int p1), (2, .int p2), (3, .int l3)] → W p l e rmX10_laysRanks s m args below meth c H locs 0 0 (MQ below (QI G DA res.1 (wX10 G h0 a0 f0 res.2)) args s 0 0 DA) (F0 m 2 ls [])) : ∀ (n : Nat) (A0 : Nat → Nat → Int32) (l3 : Int32) (l4 : Int32) (l5 : Int32), f10_laysRanks_l13 f0 p1 p2 k2 n A0 l3 l4 l5 = some res → ∀ (H : Heap) (locs : List Loc) (ls : Array Slot), WD G DA (wX10 G h0 a0 f0 A0) H → va_S DA s.heap H locs → lv_has ls 7 [(0, .ref h0), (1, .int p1), (2, .int p2), (3, .int l3), (4, .int l4), (5, .int l5)] → W p l e rmX10_laysRanks s m args below meth c H locs 0 0 (MQ below (QI G DA res.1 (wX10 G h0 a0 f0 res.2)) args s 0 0 DA) (F0 m 13 ls []) := by
  intro n
  induction n with
  | zero => intro A0 l3 l4 l5 h; cases h
  | succ n ih => intro A0 l3 l4 l5 h; exact ww_f10_laysRanks_b13 C0 hk2 ih A0 l3 l4 l5 h
set_option maxRecDepth 100000 in
set_option maxHeartbeats 4000000 in
theorem ww_f10_laysRanks_b2  (C0 : Cx cX10_laysRanks 7 (some .boolean) RX10 p s m args meth c G DA) {h0 : Nat} {a0 : Nat → Nat} {f0 : Nat → Int32} {p1 : Int32} {p2 : Int32}  {k2 : (Nat → Nat → Int32) → Int32 → Option (Int32 × (Nat → Nat → Int32))} {res : Int32 × (Nat → Nat → Int32)}  (hk2 : ∀ (A0 : Nat → Nat → Int32) (l3 : Int32), k2 A0 l3 = some res → ∀ (H : Heap) (locs : List Loc) (ls : Array Slot), WD G DA (wX10 G h0 a0 f0 A0) H → va_S DA s.heap H locs → lv_has ls 7 [(0, .ref h0), (1, .int p1), (2, .int p2), (3, .int l3)] → W p l e rmX10_laysRanks s m args below meth c H locs 0 0 (MQ below (QI G DA res.1 (wX10 G h0 a0 f0 res.2)) args s 0 0 DA) (F0 m 2 ls [])) : ∀ (A0 : Nat → Nat → Int32) (l3 : Int32), f10_laysRanks_b2 f0 p1 p2  k2 A0 l3 = some res → ∀ (H : Heap) (locs : List Loc) (ls : Array Slot), WD G DA (wX10 G h0 a0 f0 A0) H → va_S DA s.heap H locs → lv_has ls 7 [(0, .ref h0), (1, .int p1), (2, .int p2), (3, .int l3)] → W p l e rmX10_laysRanks s m args below meth c H locs 0 0 (MQ below (QI G DA res.1 (wX10 G h0 a0 f0 res.2)) args s 0 0 DA) (F0 m 2 ls []) := by
  obtain ⟨hx, hb, hml, hown, hts⟩ := C0.1
  have hK := C0.2.2.2.1
  intro A0 l3 h _ _ _ hPD hS hl
  unfold f10_laysRanks_b2 at h
  refine lv_iload_n hx hb dX10_laysRanks_2 rfl (lv_at hl 3 rfl) ?_
  refine lv_iload_n hx hb dX10_laysRanks_3 rfl (lv_at hl 2 rfl) ?_
  refine lv_icmp_ge (tgt := 84) hx hb dX10_laysRanks_4 (by decide) (fun cc1 => ?_) (fun cc1 => ?_)
  · have h := (if_pos cc1).symm.trans h
    refine lv_iconst (v := 1) hx hb dX10_laysRanks_84 (by decide) ?_
    obtain rfl := Option.some.inj h
    exact eZ C0 hPD.1 hPD.2 hS rfl rfl dX10_laysRanks_85
  · have h := (if_neg cc1).symm.trans h
    refine lv_iconst (v := 0) hx hb dX10_laysRanks_7 (by decide) ?_
    refine lv_istore (lv' := [(4, .int 0), (0, .ref h0), (1, .int p1), (2, .int p2), (3, .int l3)]) hx hb dX10_laysRanks_8 hl (by decide) rfl (fun ls hl => ?_)
    refine lv_iconst (v := 0) hx hb dX10_laysRanks_10 (by decide) ?_
    refine lv_istore (lv' := [(5, .int 0), (4, .int 0), (0, .ref h0), (1, .int p1), (2, .int p2), (3, .int l3)]) hx hb dX10_laysRanks_11 hl (by decide) rfl (fun ls hl => ?_)
    exact ww_f10_laysRanks_l13 C0 hk2 NF A0 l3 0 0 h _ _ _ hPD hS (lv_sub hl [2, 3, 4, 5, 1, 0] rfl)
set_option maxRecDepth 100000 in
set_option maxHeartbeats 4000000 in
theorem ww_f10_laysRanks_l2  (C0 : Cx cX10_laysRanks 7 (some .boolean) RX10 p s m args meth c G DA) {h0 : Nat} {a0 : Nat → Nat} {f0 : Nat → Int32} {p1 : Int32} {p2 : Int32}   {res : Int32 × (Nat → Nat → Int32)}  : ∀ (n : Nat) (A0 : Nat → Nat → Int32) (l3 : Int32), f10_laysRanks_l2 f0 p1 p2  n A0 l3 = some res → ∀ (H : Heap) (locs : List Loc) (ls : Array Slot), WD G DA (wX10 G h0 a0 f0 A0) H → va_S DA s.heap H locs → lv_has ls 7 [(0, .ref h0), (1, .int p1), (2, .int p2), (3, .int l3)] → W p l e rmX10_laysRanks s m args below meth c H locs 0 0 (MQ below (QI G DA res.1 (wX10 G h0 a0 f0 res.2)) args s 0 0 DA) (F0 m 2 ls []) := by
  intro n
  induction n with
  | zero => intro A0 l3 h; cases h
  | succ n ih => intro A0 l3 h; exact ww_f10_laysRanks_b2 C0  ih A0 l3 h
set_option maxRecDepth 100000 in
set_option maxHeartbeats 4000000 in
theorem kt_X10_laysRanks (l : Launch) (G : Gp) (h0 : Nat) (a0 : Nat → Nat) (f0 : Nat → Int32) (A0 : Nat → Nat → Int32) (p1 : Int32) (p2 : Int32) : ∀ {r : Int32 × (Nat → Nat → Int32)}, f10_laysRanks f0 A0 p1 p2 = some r → CtrI l yX10_laysRanks cX10_laysRanks 7 (some .boolean) rmX10_laysRanks G [.ref h0, .int p1, .int p2] (wX10 G h0 a0 f0 A0) r.1 (wX10 G h0 a0 f0 r.2) := by
  intro res h
  refine ctrI_of (cc := cX10_laysRanks) (maxL := 7) (ret := (some .boolean)) (by decide +kernel) rfl (Nat.le_of_ble_eq_true rfl) (fun p e s m below meth c DA C0 hP hD ls hl => ?_)
  have hPD : WD G DA (wX10 G h0 a0 f0 A0) s.heap := ⟨hP, hD⟩
  have hS : va_S DA s.heap s.heap [] := va_S.rf
  have hl : lv_has ls 7 [(0, .ref h0), (1, .int p1), (2, .int p2)] := hl
  obtain ⟨hx, hb, hml, hown, hts⟩ := C0.1
  have hK := C0.2.2.2.1
  unfold f10_laysRanks at h
  refine lv_iconst (v := 0) hx hb dX10_laysRanks_0 (by decide) ?_
  refine lv_istore_n (lv' := [(3, .int 0), (0, .ref h0), (1, .int p1), (2, .int p2)]) hx hb dX10_laysRanks_1 rfl hl (by decide) rfl (fun ls hl => ?_)
  exact ww_f10_laysRanks_l2 C0 NF A0 0 h _ _ _ hPD hS (lv_sub hl [1, 2, 3, 0] rfl)
abbrev rmX10_margin : Room := { frames := 0, cells := 0, slots := 0, locals := 0 }
set_option maxRecDepth 100000 in
set_option maxHeartbeats 4000000 in
theorem ww_f10_margin_b6  (C0 : Cx cX10_margin 6 (some .int) RX10 p s m args meth c G DA) {h0 : Nat} {a0 : Nat → Nat} {f0 : Nat → Int32} {A0 : Nat → Nat → Int32} {p1 : Int32} {p2 : Int32} {p3 : Int32}  {k6 : Int32 → Int32 → Option (Int32)} {res : Int32}  (hk6 : ∀ (l4 : Int32) (l5 : Int32), k6 l4 l5 = some res → ∀ (H : Heap) (locs : List Loc) (ls : Array Slot), WD G DA (wX10 G h0 a0 f0 A0) H → va_S DA s.heap H locs → lv_has ls 6 [(0, .ref h0), (1, .int p1), (2, .int p2), (3, .int p3), (4, .int l4), (5, .int l5)] → W p l e rmX10_margin s m args below meth c H locs 0 0 (MQ below (QI G DA res (wX10 G h0 a0 f0 A0)) args s 0 0 DA) (F0 m 6 ls [])) : ∀ (l4 : Int32) (l5 : Int32), f10_margin_b6 f0 A0 p1 p2 p3  k6 l4 l5 = some res → ∀ (H : Heap) (locs : List Loc) (ls : Array Slot), WD G DA (wX10 G h0 a0 f0 A0) H → va_S DA s.heap H locs → lv_has ls 6 [(0, .ref h0), (1, .int p1), (2, .int p2), (3, .int p3), (4, .int l4), (5, .int l5)] → W p l e rmX10_margin s m args below meth c H locs 0 0 (MQ below (QI G DA res (wX10 G h0 a0 f0 A0)) args s 0 0 DA) (F0 m 6 ls []) := by
  obtain ⟨hx, hb, hml, hown, hts⟩ := C0.1
  have hK := C0.2.2.2.1
  intro l4 l5 h _ _ _ hPD hS hl
  unfold f10_margin_b6 at h
  refine lv_iload hx hb dX10_margin_6 (lv_at hl 5 rfl) ?_
  refine lv_iload_n hx hb dX10_margin_8 rfl (lv_at hl 3 rfl) ?_
  refine lv_icmp_ge (tgt := 55) hx hb dX10_margin_9 (by decide) (fun cc1 => ?_) (fun cc1 => ?_)
  · have h := (if_pos cc1).symm.trans h
    refine lv_iload hx hb dX10_margin_55 (lv_at hl 4 rfl) ?_
    obtain rfl := Option.some.inj h
    exact eI C0 hPD.1 hPD.2 hS rfl dX10_margin_57
  · have h := (if_neg cc1).symm.trans h
    refine lv_iload hx hb dX10_margin_12 (lv_at hl 4 rfl) ?_
    refine lv_aload_n hx hb dX10_margin_14 rfl (lv_at hl 0 rfl) ?_
    refine va_get (D := G.1) (ci := 10) (v := .ref (a0 50)) (C := RX10) (T := TX10) (N := 52) hx hb hts inlX10 hown hK hPD.1 0 rfl rfl 50 (by decide) (hts _ gw_817) (fun _ h9 => h9) rfl dX10_margin_15 ?_
    refine lv_bipush (v := 6) hx hb dX10_margin_18 (by decide) ?_
    refine lv_iload hx hb dX10_margin_20 (lv_at hl 5 rfl) ?_
    refine lv_imul hx hb dX10_margin_22 ?_
    refine lv_iload_n hx hb dX10_margin_23 rfl (lv_at hl 1 rfl) ?_
    refine lv_iadd hx hb dX10_margin_24 ?_
    obtain ⟨hi_1, h⟩ := ob h
    refine va_iald hx hb hK hPD.1 33 1 rfl rfl hi_1 dX10_margin_25 ?_
    refine lv_aload_n hx hb dX10_margin_26 rfl (lv_at hl 0 rfl) ?_
    refine va_get (D := G.1) (ci := 10) (v := .ref (a0 50)) (C := RX10) (T := TX10) (N := 52) hx hb hts inlX10 hown hK hPD.1 0 rfl rfl 50 (by decide) (hts _ gw_817) (fun _ h9 => h9) rfl dX10_margin_27 ?_
    refine lv_bipush (v := 6) hx hb dX10_margin_30 (by decide) ?_
    refine lv_iload hx hb dX10_margin_32 (lv_at hl 5 rfl) ?_
    refine lv_imul hx hb dX10_margin_34 ?_
    refine lv_iload_n hx hb dX10_margin_35 rfl (lv_at hl 2 rfl) ?_
    refine lv_iadd hx hb dX10_margin_36 ?_
    obtain ⟨hi_2, h⟩ := ob h
    refine va_iald hx hb hK hPD.1 33 1 rfl rfl hi_2 dX10_margin_37 ?_
    refine lv_icmp_ge (tgt := 45) hx hb dX10_margin_38 (by decide) (fun cc1 => ?_) (fun cc1 => ?_)
    · have h := (if_pos cc1).symm.trans h
      refine lv_iconst (v := (-1)) hx hb dX10_margin_45 (by decide) ?_
      refine lv_iadd hx hb dX10_margin_46 ?_
      refine lv_istore (lv' := [(4, .int (l4 + (-1))), (0, .ref h0), (1, .int p1), (2, .int p2), (3, .int p3), (5, .int l5)]) hx hb dX10_margin_47 hl (by decide) rfl (fun ls hl => ?_)
      refine lv_iinc (v := l5 + 1) (lv' := [(5, .int (l5 + 1)), (4, .int (l4 + (-1))), (0, .ref h0), (1, .int p1), (2, .int p2), (3, .int p3)]) hx hb dX10_margin_49 hl (k := 5) rfl rfl (by decide) rfl (fun ls hl => ?_)
      refine lv_goto (tgt := 6) hx hb dX10_margin_52 (by decide) ?_
      exact hk6 (l4 + (-1)) (l5 + 1) h _ _ _ hPD hS (lv_sub hl [2, 3, 4, 5, 1, 0] rfl)
    · have h := (if_neg cc1).symm.trans h
      refine lv_iconst (v := 1) hx hb dX10_margin_41 (by decide) ?_
      refine lv_goto (tgt := 46) hx hb dX10_margin_42 (by decide) ?_
      refine lv_iadd hx hb dX10_margin_46 ?_
      refine lv_istore (lv' := [(4, .int (l4 + 1)), (0, .ref h0), (1, .int p1), (2, .int p2), (3, .int p3), (5, .int l5)]) hx hb dX10_margin_47 hl (by decide) rfl (fun ls hl => ?_)
      refine lv_iinc (v := l5 + 1) (lv' := [(5, .int (l5 + 1)), (4, .int (l4 + 1)), (0, .ref h0), (1, .int p1), (2, .int p2), (3, .int p3)]) hx hb dX10_margin_49 hl (k := 5) rfl rfl (by decide) rfl (fun ls hl => ?_)
      refine lv_goto (tgt := 6) hx hb dX10_margin_52 (by decide) ?_
      exact hk6 (l4 + 1) (l5 + 1) h _ _ _ hPD hS (lv_sub hl [2, 3, 4, 5, 1, 0] rfl)
end WALK
