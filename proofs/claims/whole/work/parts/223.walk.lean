section WALK
variable {p : Program} {l : Launch} {e : Env} {s : State} {m : MethodId} {args : Array Value} {below : List Frame} {meth : Method} {c : Code} {G : Gp} {DA : Nat → Prop}
set_option maxRecDepth 100000 in
set_option maxHeartbeats 4000000 in
theorem kt_X9_watches (l : Launch) (G : Gp) (h0 : Nat) (a0 : Nat → Nat) (wk : Option Nat) (a1 : Nat → Nat) (a2 : Nat → Nat) (f0 : Nat → Int32) (A0 : Nat → Nat → Int32) (f1 : Nat → Int32) (A1 : Nat → Nat → Int32) (f2 : Nat → Int32) (A2 : Nat → Nat → Int32) (p1 : Int32) : ∀ {r : Int32 × (Nat → Nat → Int32)}, f9_watches f0 A0 f1 A1 f2 A2 p1 = some r → CtrI l yX9_watches cX9_watches 3 (some .int) rmX9_watches G [.ref h0, .int p1] (wX9 G h0 a0 wk f0 A0 ++ (wX1 G (a0 1) a1 f1 A1 ++ (wX4 G (a0 8) a2 f2 A2))) r.1 (wX9 G h0 a0 wk f0 A0 ++ (wX1 G (a0 1) a1 f1 A1 ++ (wX4 G (a0 8) a2 f2 r.2))) := by
  intro res h
  refine ctrI_of (cc := cX9_watches) (maxL := 3) (ret := (some .int)) (by decide +kernel) rfl (Nat.le_of_ble_eq_true rfl) (fun p e s m below meth c DA C0 hP hD ls hl => ?_)
  have hPD : WD G DA (wX9 G h0 a0 wk f0 A0 ++ (wX1 G (a0 1) a1 f1 A1 ++ (wX4 G (a0 8) a2 f2 A2))) s.heap := ⟨hP, hD⟩
  have hS : va_S DA s.heap s.heap [] := va_S.rf
  have hl : lv_has ls 3 [(0, .ref h0), (1, .int p1)] := hl
  obtain ⟨hx, hb, hml, hown, hts⟩ := C0.1
  have hK := C0.2.2.2.1
  unfold f9_watches at h
  refine lv_iload_n hx hb dX9_watches_0 rfl (lv_at hl 1 rfl) ?_
  refine lv_bipush (v := 100) hx hb dX9_watches_1 (by decide) ?_
  refine lv_icmp_eq (tgt := 19) hx hb dX9_watches_3 (by decide) (fun cc1 => ?_) (fun cc1 => ?_)
  · have h := (if_pos cc1).symm.trans h
    exact ww_f9_watches_b19 C0 A2 h _ _ _ hPD hS (lv_sub hl [0, 1] rfl)
  · have h := (if_neg cc1).symm.trans h
    refine lv_aload_n hx hb dX9_watches_6 rfl (lv_at hl 0 rfl) ?_
    refine va_get (D := G.1) (ci := 9) (v := .ref (a0 1)) (C := RX9) (T := TX9) (N := 15) hx hb hts inlX9 hown hK hPD.1 0 rfl rfl 1 (by decide) (hts _ gw_351) (fun _ h9 => h9) rfl dX9_watches_7 ?_
    refine lv_iload_n hx hb dX9_watches_10 rfl (lv_at hl 1 rfl) ?_
    refine kVI (As := [.int p1]) (rest := []) C0 (kt_X1_isTold l G (a0 1) a1 f1 A1 p1) gi_V_X9_108_X1_isTold (n := 1) rfl (by decide +kernel) rfl ⟨rfl, rfl, Nat.le_of_ble_eq_true rfl, Nat.le_of_ble_eq_true rfl⟩ hPD hS 2 1 rfl rfl rfl [2, 3, 4, 5] [0, 1, 6, 7] [0, 1, 4, 5, 6, 7, 2, 3] (wr := (wX9 G h0 a0 wk f0 A0 ++ (wX4 G (a0 8) a2 f2 A2))) (wN := (wX9 G h0 a0 wk f0 A0 ++ (wX1 G (a0 1) a1 f1 A1 ++ (wX4 G (a0 8) a2 f2 A2)))) rfl rfl rfl rfl rfl hl.1 (Nat.le_of_ble_eq_true rfl) dX9_watches_11 (fun H locs hPD hS => ?_)
    refine lv_if_ne (tgt := 19) hx hb dX9_watches_14 (by decide) (fun cc1 => ?_) (fun cc1 => ?_)
    · have h := (if_neg cc1).symm.trans h
      exact ww_f9_watches_b19 C0 A2 h _ _ _ hPD hS (lv_sub hl [0, 1] rfl)
    · have h := (if_pos cc1).symm.trans h
      refine lv_iconst (v := (-1)) hx hb dX9_watches_17 (by decide) ?_
      obtain rfl := Option.some.inj h
      exact eI C0 hPD.1 hPD.2 hS rfl dX9_watches_18
abbrev rmX9_reaches : Room := { frames := 2, cells := 0, slots := 0, locals := 43 }
set_option maxRecDepth 100000 in
set_option maxHeartbeats 4000000 in
theorem kt_X9_reaches (l : Launch) (G : Gp) (h0 : Nat) (a0 : Nat → Nat) (wk : Option Nat) (a1 : Nat → Nat) (f0 : Nat → Int32) (A0 : Nat → Nat → Int32) (f1 : Nat → Int32) (A1 : Nat → Nat → Int32) (p1 : Int32) (p2 : Int32) : CtrI l yX9_reaches cX9_reaches 4 (some .boolean) rmX9_reaches G [.ref h0, .int p1, .int p2] (wX9 G h0 a0 wk f0 A0 ++ (wX1 G (a0 1) a1 f1 A1)) (f9_reaches f0 A0 f1 A1 p1 p2) (wX9 G h0 a0 wk f0 A0 ++ (wX1 G (a0 1) a1 f1 A1)) := by
  obtain ⟨res, h⟩ : ∃ res, f9_reaches f0 A0 f1 A1 p1 p2 = res := ⟨_, rfl⟩
  rw [h]
  refine ctrI_of (cc := cX9_reaches) (maxL := 4) (ret := (some .boolean)) (by decide +kernel) rfl (Nat.le_of_ble_eq_true rfl) (fun p e s m below meth c DA C0 hP hD ls hl => ?_)
  have hPD : WD G DA (wX9 G h0 a0 wk f0 A0 ++ (wX1 G (a0 1) a1 f1 A1)) s.heap := ⟨hP, hD⟩
  have hS : va_S DA s.heap s.heap [] := va_S.rf
  have hl : lv_has ls 4 [(0, .ref h0), (1, .int p1), (2, .int p2)] := hl
  obtain ⟨hx, hb, hml, hown, hts⟩ := C0.1
  have hK := C0.2.2.2.1
  unfold f9_reaches at h
  refine lv_aload_n hx hb dX9_reaches_0 rfl (lv_at hl 0 rfl) ?_
  refine va_get (D := G.1) (ci := 9) (v := .ref (a0 1)) (C := RX9) (T := TX9) (N := 15) hx hb hts inlX9 hown hK hPD.1 0 rfl rfl 1 (by decide) (hts _ gw_351) (fun _ h9 => h9) rfl dX9_reaches_1 ?_
  refine lv_iload_n hx hb dX9_reaches_4 rfl (lv_at hl 1 rfl) ?_
  refine kVI (As := [.int p1]) (rest := []) C0 (kt_X1_stepsTo l G (a0 1) a1 f1 A1 p1) gi_V_X9_233_X1_stepsTo (n := 1) rfl (by decide +kernel) rfl ⟨rfl, rfl, Nat.le_of_ble_eq_true rfl, Nat.le_of_ble_eq_true rfl⟩ hPD hS 2 1 rfl rfl rfl [2, 3, 4, 5] [0, 1] [0, 1, 2, 3, 4, 5] (wr := (wX9 G h0 a0 wk f0 A0)) (wN := (wX9 G h0 a0 wk f0 A0 ++ (wX1 G (a0 1) a1 f1 A1))) rfl rfl rfl rfl rfl hl.1 (Nat.le_of_ble_eq_true rfl) dX9_reaches_5 (fun H locs hPD hS => ?_)
  refine lv_istore_n (lv' := [(3, .int (f1_stepsTo f1 A1 p1)), (0, .ref h0), (1, .int p1), (2, .int p2)]) hx hb dX9_reaches_8 rfl hl (by decide) rfl (fun ls hl => ?_)
  refine lv_iload_n hx hb dX9_reaches_9 rfl (lv_at hl 0 rfl) ?_
  refine lv_if_lt (tgt := 22) hx hb dX9_reaches_10 (by decide) (fun cc1 => ?_) (fun cc1 => ?_)
  · have h := (if_pos cc1).symm.trans h
    refine lv_iconst (v := 0) hx hb dX9_reaches_22 (by decide) ?_
    subst h
    exact eZ C0 hPD.1 hPD.2 hS rfl rfl dX9_reaches_23
  · have h := (if_neg cc1).symm.trans h
    refine lv_iload_n hx hb dX9_reaches_13 rfl (lv_at hl 0 rfl) ?_
    refine lv_iload_n hx hb dX9_reaches_14 rfl (lv_at hl 3 rfl) ?_
    refine lv_icmp_gt (tgt := 22) hx hb dX9_reaches_15 (by decide) (fun cc1 => ?_) (fun cc1 => ?_)
    · have h := (if_pos cc1).symm.trans h
      refine lv_iconst (v := 0) hx hb dX9_reaches_22 (by decide) ?_
      subst h
      exact eZ C0 hPD.1 hPD.2 hS rfl rfl dX9_reaches_23
    · have h := (if_neg cc1).symm.trans h
      refine lv_iconst (v := 1) hx hb dX9_reaches_18 (by decide) ?_
      refine lv_goto (tgt := 23) hx hb dX9_reaches_19 (by decide) ?_
      subst h
      exact eZ C0 hPD.1 hPD.2 hS rfl rfl dX9_reaches_23
abbrev rmX9_alibis : Room := { frames := 4, cells := 0, slots := 0, locals := 91 }
set_option maxRecDepth 100000 in
set_option maxHeartbeats 4000000 in
theorem ww_f9_alibis_b133  (C0 : Cx cX9_alibis 8 (some .int) RX9 p s m args meth c G DA) {h0 : Nat} {a0 : Nat → Nat} {wk : Option Nat} {a1 : Nat → Nat} {a2 : Nat → Nat} {f0 : Nat → Int32} {A0 : Nat → Nat → Int32} {A1 : Nat → Nat → Int32} {f2 : Nat → Int32} {p1 : Int32} {p2 : Int32} {p3 : Int32}  {k133 : (Nat → Int32) → (Nat → Nat → Int32) → Int32 → Int32 → Option (Int32 × (Nat → Int32) × (Nat → Nat → Int32))} {res : Int32 × (Nat → Int32) × (Nat → Nat → Int32)}  (hk133 : ∀ (f1 : Nat → Int32) (A2 : Nat → Nat → Int32) (l4 : Int32) (l5 : Int32), k133 f1 A2 l4 l5 = some res → ∀ (H : Heap) (locs : List Loc) (ls : Array Slot), WD G DA (wX9 G h0 a0 wk f0 A0 ++ (wX7 G (a0 0) a1 f1 A1 ++ (wX1 G (a0 1) a2 f2 A2))) H → va_S DA s.heap H locs → lv_has ls 8 [(0, .ref h0), (1, .int p1), (2, .int p2), (3, .int p3), (4, .int l4), (5, .int l5)] → W p l e rmX9_alibis s m args below meth c H locs 0 0 (MQ below (QI G DA res.1 (wX9 G h0 a0 wk f0 A0 ++ (wX7 G (a0 0) a1 res.2.1 A1 ++ (wX1 G (a0 1) a2 f2 res.2.2)))) args s 0 0 DA) (F0 m 133 ls [])) : ∀ (f1 : Nat → Int32) (A2 : Nat → Nat → Int32) (l4 : Int32) (l5 : Int32), f9_alibis_b133 f0 A0 A1 f2 p1 p2 p3  k133 f1 A2 l4 l5 = some res → ∀ (H : Heap) (locs : List Loc) (ls : Array Slot), WD G DA (wX9 G h0 a0 wk f0 A0 ++ (wX7 G (a0 0) a1 f1 A1 ++ (wX1 G (a0 1) a2 f2 A2))) H → va_S DA s.heap H locs → lv_has ls 8 [(0, .ref h0), (1, .int p1), (2, .int p2), (3, .int p3), (4, .int l4), (5, .int l5)] → W p l e rmX9_alibis s m args below meth c H locs 0 0 (MQ below (QI G DA res.1 (wX9 G h0 a0 wk f0 A0 ++ (wX7 G (a0 0) a1 res.2.1 A1 ++ (wX1 G (a0 1) a2 f2 res.2.2)))) args s 0 0 DA) (F0 m 133 ls []) := by
  obtain ⟨hx, hb, hml, hown, hts⟩ := C0.1
  have hK := C0.2.2.2.1
  intro f1 A2 l4 l5 h _ _ _ hPD hS hl
  unfold f9_alibis_b133 at h
  refine lv_iload hx hb dX9_alibis_133 (lv_at hl 5 rfl) ?_
  refine lv_iload_n hx hb dX9_alibis_135 rfl (lv_at hl 1 rfl) ?_
  refine lv_icmp_ge (tgt := 230) hx hb dX9_alibis_136 (by decide) (fun cc1 => ?_) (fun cc1 => ?_)
  · have h := (if_pos cc1).symm.trans h
    refine lv_iload hx hb dX9_alibis_230 (lv_at hl 4 rfl) ?_
    obtain rfl := Option.some.inj h
    exact eI C0 hPD.1 hPD.2 hS rfl dX9_alibis_232
  · have h := (if_neg cc1).symm.trans h
    refine lv_aload_n hx hb dX9_alibis_139 rfl (lv_at hl 0 rfl) ?_
    refine lv_aload_n hx hb dX9_alibis_140 rfl (lv_at hl 0 rfl) ?_
    refine va_get (D := G.1) (ci := 9) (v := .ref (a0 0)) (C := RX9) (T := TX9) (N := 15) hx hb hts inlX9 hown hK hPD.1 0 rfl rfl 0 (by decide) (hts _ gw_363) (fun _ h9 => h9) rfl dX9_alibis_141 ?_
    refine lv_iconst (v := 4) hx hb dX9_alibis_144 (by decide) ?_
    refine lv_iload hx hb dX9_alibis_145 (lv_at hl 5 rfl) ?_
    refine lv_imul hx hb dX9_alibis_147 ?_
    refine kVI (As := [.int (4 * l5)]) (rest := [.ref h0]) C0 (kt_X7_byteAt l G (a0 0) a1 f1 A1 (4 * l5)) gi_V_X9_224_X7_byteAt (n := 1) rfl (by decide +kernel) rfl ⟨rfl, rfl, Nat.le_of_ble_eq_true rfl, Nat.le_of_ble_eq_true rfl⟩ hPD hS 2 7 rfl rfl rfl [2, 3] [0, 1, 4, 5, 6, 7] [0, 1, 6, 7, 2, 3, 4, 5] (wr := (wX9 G h0 a0 wk f0 A0 ++ (wX1 G (a0 1) a2 f2 A2))) (wN := (wX9 G h0 a0 wk f0 A0 ++ (wX7 G (a0 0) a1 f1 A1 ++ (wX1 G (a0 1) a2 f2 A2)))) rfl rfl rfl rfl rfl hl.1 (Nat.le_of_ble_eq_true rfl) dX9_alibis_148 (fun H locs hPD hS => ?_)
    refine lv_iload_n hx hb dX9_alibis_151 rfl (lv_at hl 3 rfl) ?_
    refine lv_aload_n hx hb dX9_alibis_152 rfl (lv_at hl 0 rfl) ?_
    refine va_get (D := G.1) (ci := 9) (v := .ref (a0 0)) (C := RX9) (T := TX9) (N := 15) hx hb hts inlX9 hown hK hPD.1 0 rfl rfl 0 (by decide) (hts _ gw_363) (fun _ h9 => h9) rfl dX9_alibis_153 ?_
    refine lv_iconst (v := 4) hx hb dX9_alibis_156 (by decide) ?_
    refine lv_iload hx hb dX9_alibis_157 (lv_at hl 5 rfl) ?_
    refine lv_imul hx hb dX9_alibis_159 ?_
    refine lv_iconst (v := 1) hx hb dX9_alibis_160 (by decide) ?_
    refine lv_iadd hx hb dX9_alibis_161 ?_
    refine kVI (As := [.int ((4 * l5) + 1)]) (rest := [.int p3, .int (f7_byteAt f1 A1 (4 * l5)), .ref h0]) C0 (kt_X7_byteAt l G (a0 0) a1 f1 A1 ((4 * l5) + 1)) gi_V_X9_224_X7_byteAt (n := 1) rfl (by decide +kernel) rfl ⟨rfl, rfl, Nat.le_of_ble_eq_true rfl, Nat.le_of_ble_eq_true rfl⟩ hPD hS 2 7 rfl rfl rfl [2, 3] [0, 1, 4, 5, 6, 7] [0, 1, 6, 7, 2, 3, 4, 5] (wr := (wX9 G h0 a0 wk f0 A0 ++ (wX1 G (a0 1) a2 f2 A2))) (wN := (wX9 G h0 a0 wk f0 A0 ++ (wX7 G (a0 0) a1 f1 A1 ++ (wX1 G (a0 1) a2 f2 A2)))) rfl rfl rfl rfl rfl hl.1 (Nat.le_of_ble_eq_true rfl) dX9_alibis_162 (fun H locs hPD hS => ?_)
    refine lv_isub hx hb dX9_alibis_165 ?_
    refine kVI (As := [.int (f7_byteAt f1 A1 (4 * l5)), .int (p3 - (f7_byteAt f1 A1 ((4 * l5) + 1)))]) (rest := []) C0 (kt_X9_reaches l G h0 a0 wk a2 f0 A0 f2 A2 (f7_byteAt f1 A1 (4 * l5)) (p3 - (f7_byteAt f1 A1 ((4 * l5) + 1)))) gi_V_X9_274_X9_reaches (n := 2) rfl (by decide +kernel) rfl ⟨rfl, rfl, Nat.le_of_ble_eq_true rfl, Nat.le_of_ble_eq_true rfl⟩ hPD hS 0 9 rfl rfl rfl [0, 1, 4, 5, 6, 7] [2, 3] [2, 3, 0, 1, 4, 5, 6, 7] (wr := (wX7 G (a0 0) a1 f1 A1)) (wN := (wX9 G h0 a0 wk f0 A0 ++ (wX7 G (a0 0) a1 f1 A1 ++ (wX1 G (a0 1) a2 f2 A2)))) rfl rfl rfl rfl rfl hl.1 (Nat.le_of_ble_eq_true rfl) dX9_alibis_166 (fun H locs hPD hS => ?_)
    obtain ⟨x_3, ex_3, h⟩ := lvl h
    refine lv_nm ex_3 ?_
    refine lv_istore (lv' := [(6, .int x_3), (0, .ref h0), (1, .int p1), (2, .int p2), (3, .int p3), (4, .int l4), (5, .int l5)]) hx hb dX9_alibis_169 hl (by decide) rfl (fun ls hl => ?_)
    refine lv_aload_n hx hb dX9_alibis_171 rfl (lv_at hl 1 rfl) ?_
    refine lv_aload_n hx hb dX9_alibis_172 rfl (lv_at hl 1 rfl) ?_
    refine va_get (D := G.1) (ci := 9) (v := .ref (a0 0)) (C := RX9) (T := TX9) (N := 15) hx hb hts inlX9 hown hK hPD.1 0 rfl rfl 0 (by decide) (hts _ gw_363) (fun _ h9 => h9) rfl dX9_alibis_173 ?_
    refine lv_iconst (v := 4) hx hb dX9_alibis_176 (by decide) ?_
    refine lv_iload hx hb dX9_alibis_177 (lv_at hl 6 rfl) ?_
    refine lv_imul hx hb dX9_alibis_179 ?_
    refine lv_iconst (v := 2) hx hb dX9_alibis_180 (by decide) ?_
    refine lv_iadd hx hb dX9_alibis_181 ?_
    refine kVI (As := [.int ((4 * l5) + 2)]) (rest := [.ref h0]) C0 (kt_X7_byteAt l G (a0 0) a1 f1 A1 ((4 * l5) + 2)) gi_V_X9_224_X7_byteAt (n := 1) rfl (by decide +kernel) rfl ⟨rfl, rfl, Nat.le_of_ble_eq_true rfl, Nat.le_of_ble_eq_true rfl⟩ hPD hS 2 7 rfl rfl rfl [2, 3] [0, 1, 4, 5, 6, 7] [0, 1, 6, 7, 2, 3, 4, 5] (wr := (wX9 G h0 a0 wk f0 A0 ++ (wX1 G (a0 1) a2 f2 A2))) (wN := (wX9 G h0 a0 wk f0 A0 ++ (wX7 G (a0 0) a1 f1 A1 ++ (wX1 G (a0 1) a2 f2 A2)))) rfl rfl rfl rfl rfl hl.1 (Nat.le_of_ble_eq_true rfl) dX9_alibis_182 (fun H locs hPD hS => ?_)
    refine lv_aload_n hx hb dX9_alibis_185 rfl (lv_at hl 1 rfl) ?_
    refine va_get (D := G.1) (ci := 9) (v := .ref (a0 0)) (C := RX9) (T := TX9) (N := 15) hx hb hts inlX9 hown hK hPD.1 0 rfl rfl 0 (by decide) (hts _ gw_363) (fun _ h9 => h9) rfl dX9_alibis_186 ?_
    refine lv_iconst (v := 4) hx hb dX9_alibis_189 (by decide) ?_
    refine lv_iload hx hb dX9_alibis_190 (lv_at hl 6 rfl) ?_
    refine lv_imul hx hb dX9_alibis_192 ?_
    refine lv_iconst (v := 3) hx hb dX9_alibis_193 (by decide) ?_
    refine lv_iadd hx hb dX9_alibis_194 ?_
    refine kVI (As := [.int ((4 * l5) + 3)]) (rest := [.int (f7_byteAt f1 A1 ((4 * l5) + 2)), .ref h0]) C0 (kt_X7_byteAt l G (a0 0) a1 f1 A1 ((4 * l5) + 3)) gi_V_X9_224_X7_byteAt (n := 1) rfl (by decide +kernel) rfl ⟨rfl, rfl, Nat.le_of_ble_eq_true rfl, Nat.le_of_ble_eq_true rfl⟩ hPD hS 2 7 rfl rfl rfl [2, 3] [0, 1, 4, 5, 6, 7] [0, 1, 6, 7, 2, 3, 4, 5] (wr := (wX9 G h0 a0 wk f0 A0 ++ (wX1 G (a0 1) a2 f2 A2))) (wN := (wX9 G h0 a0 wk f0 A0 ++ (wX7 G (a0 0) a1 f1 A1 ++ (wX1 G (a0 1) a2 f2 A2)))) rfl rfl rfl rfl rfl hl.1 (Nat.le_of_ble_eq_true rfl) dX9_alibis_195 (fun H locs hPD hS => ?_)
    refine lv_iload_n hx hb dX9_alibis_198 rfl (lv_at hl 4 rfl) ?_
    refine lv_isub hx hb dX9_alibis_199 ?_
    refine kVI (As := [.int (f7_byteAt f1 A1 ((4 * l5) + 2)), .int ((f7_byteAt f1 A1 ((4 * l5) + 3)) - p3)]) (rest := []) C0 (kt_X9_reaches l G h0 a0 wk a2 f0 A0 f2 A2 (f7_byteAt f1 A1 ((4 * l5) + 2)) ((f7_byteAt f1 A1 ((4 * l5) + 3)) - p3)) gi_V_X9_274_X9_reaches (n := 2) rfl (by decide +kernel) rfl ⟨rfl, rfl, Nat.le_of_ble_eq_true rfl, Nat.le_of_ble_eq_true rfl⟩ hPD hS 0 9 rfl rfl rfl [0, 1, 4, 5, 6, 7] [2, 3] [2, 3, 0, 1, 4, 5, 6, 7] (wr := (wX7 G (a0 0) a1 f1 A1)) (wN := (wX9 G h0 a0 wk f0 A0 ++ (wX7 G (a0 0) a1 f1 A1 ++ (wX1 G (a0 1) a2 f2 A2)))) rfl rfl rfl rfl rfl hl.1 (Nat.le_of_ble_eq_true rfl) dX9_alibis_200 (fun H locs hPD hS => ?_)
    obtain ⟨x_4, ex_4, h⟩ := lvl h
    refine lv_nm ex_4 ?_
    refine lv_istore (lv' := [(7, .int x_4), (6, .int x_3), (0, .ref h0), (1, .int p1), (2, .int p2), (3, .int p3), (4, .int l4), (5, .int l5)]) hx hb dX9_alibis_203 hl (by decide) rfl (fun ls hl => ?_)
    refine lv_iload hx hb dX9_alibis_205 (lv_at hl 1 rfl) ?_
    refine lv_if_eq (tgt := 224) hx hb dX9_alibis_207 (by decide) (fun cc1 => ?_) (fun cc1 => ?_)
    · have h := (if_pos cc1).symm.trans h
      refine lv_iinc (v := l5 + 1) (lv' := [(5, .int (l5 + 1)), (7, .int x_4), (6, .int x_3), (0, .ref h0), (1, .int p1), (2, .int p2), (3, .int p3), (4, .int l4)]) hx hb dX9_alibis_224 hl (k := 7) rfl rfl (by decide) rfl (fun ls hl => ?_)
      refine lv_goto (tgt := 133) hx hb dX9_alibis_227 (by decide) ?_
      exact hk133 f1 A2 l4 (l5 + 1) h _ _ _ hPD hS (lv_sub hl [3, 4, 5, 6, 7, 0] rfl)
    · have h := (if_neg cc1).symm.trans h
      refine lv_iload hx hb dX9_alibis_210 (lv_at hl 0 rfl) ?_
      refine lv_if_eq (tgt := 224) hx hb dX9_alibis_212 (by decide) (fun cc1 => ?_) (fun cc1 => ?_)
      · have h := (if_pos cc1).symm.trans h
        refine lv_iinc (v := l5 + 1) (lv' := [(5, .int (l5 + 1)), (7, .int x_4), (6, .int x_3), (0, .ref h0), (1, .int p1), (2, .int p2), (3, .int p3), (4, .int l4)]) hx hb dX9_alibis_224 hl (k := 7) rfl rfl (by decide) rfl (fun ls hl => ?_)
        refine lv_goto (tgt := 133) hx hb dX9_alibis_227 (by decide) ?_
        exact hk133 f1 A2 l4 (l5 + 1) h _ _ _ hPD hS (lv_sub hl [3, 4, 5, 6, 7, 0] rfl)
      · have h := (if_neg cc1).symm.trans h
        refine lv_iload hx hb dX9_alibis_215 (lv_at hl 6 rfl) ?_
        refine lv_iconst (v := 1) hx hb dX9_alibis_217 (by decide) ?_
        refine lv_iload hx hb dX9_alibis_218 (lv_at hl 7 rfl) ?_
        refine lv_ishl hx hb dX9_alibis_220 ?_
        refine lv_ior hx hb dX9_alibis_221 ?_
        refine lv_istore (lv' := [(4, .int (l4 ||| (shl 1 l5))), (7, .int x_4), (6, .int x_3), (0, .ref h0), (1, .int p1), (2, .int p2), (3, .int p3), (5, .int l5)]) hx hb dX9_alibis_222 hl (by decide) rfl (fun ls hl => ?_)
        refine lv_iinc (v := l5 + 1) (lv' := [(5, .int (l5 + 1)), (4, .int (l4 ||| (shl 1 l5))), (7, .int x_4), (6, .int x_3), (0, .ref h0), (1, .int p1), (2, .int p2), (3, .int p3)]) hx hb dX9_alibis_224 hl (k := 7) rfl rfl (by decide) rfl (fun ls hl => ?_)
        refine lv_goto (tgt := 133) hx hb dX9_alibis_227 (by decide) ?_
        exact hk133 f1 A2 (l4 ||| (shl 1 l5)) (l5 + 1) h _ _ _ hPD hS (lv_sub hl [4, 5, 6, 7, 1, 0] rfl)
set_option maxRecDepth 100000 in
set_option maxHeartbeats 4000000 in
theorem ww_f9_alibis_l133  (C0 : Cx cX9_alibis 8 (some .int) RX9 p s m args meth c G DA) {h0 : Nat} {a0 : Nat → Nat} {wk : Option Nat} {a1 : Nat → Nat} {a2 : Nat → Nat} {f0 : Nat → Int32} {A0 : Nat → Nat → Int32} {A1 : Nat → Nat → Int32} {f2 : Nat → Int32} {p1 : Int32} {p2 : Int32} {p3 : Int32}   {res : Int32 × (Nat → Int32) × (Nat → Nat → Int32)}  : ∀ (n : Nat) (f1 : Nat → Int32) (A2 : Nat → Nat → Int32) (l4 : Int32) (l5 : Int32), f9_alibis_l133 f0 A0 A1 f2 p1 p2 p3  n f1 A2 l4 l5 = some res → ∀ (H : Heap) (locs : List Loc) (ls : Array Slot), WD G DA (wX9 G h0 a0 wk f0 A0 ++ (wX7 G (a0 0) a1 f1 A1 ++ (wX1 G (a0 1) a2 f2 A2))) H → va_S DA s.heap H locs → lv_has ls 8 [(0, .ref h0), (1, .int p1), (2, .int p2), (3, .int p3), (4, .int l4), (5, .int l5)] → W p l e rmX9_alibis s m args below meth c H locs 0 0 (MQ below (QI G DA res.1 (wX9 G h0 a0 wk f0 A0 ++ (wX7 G (a0 0) a1 res.2.1 A1 ++ (wX1 G (a0 1) a2 f2 res.2.2)))) args s 0 0 DA) (F0 m 133 ls []) := by
  intro n
  induction n with
  | zero => intro f1 A2 l4 l5 h; cases h
  | succ n ih => intro f1 A2 l4 l5 h; exact ww_f9_alibis_b133 C0  ih f1 A2 l4 l5 h
set_option maxRecDepth 100000 in
set_option maxHeartbeats 4000000 in
theorem ww_f9_alibis_b60  (C0 : Cx cX9_alibis 8 (some .int) RX9 p s m args meth c G DA) {h0 : Nat} {a0 : Nat → Nat} {wk : Option Nat} {a1 : Nat → Nat} {a2 : Nat → Nat} {f0 : Nat → Int32} {A0 : Nat → Nat → Int32} {A1 : Nat → Nat → Int32} {f2 : Nat → Int32} {p1 : Int32} {p2 : Int32} {p3 : Int32}  {k60 : (Nat → Int32) → (Nat → Nat → Int32) → Int32 → Option (Int32 × (Nat → Int32) × (Nat → Nat → Int32))} {res : Int32 × (Nat → Int32) × (Nat → Nat → Int32)}  (hk60 : ∀ (f1 : Nat → Int32) (A2 : Nat → Nat → Int32) (l4 : Int32), k60 f1 A2 l4 = some res → ∀ (H : Heap) (locs : List Loc) (ls : Array Slot), WD G DA (wX9 G h0 a0 wk f0 A0 ++ (wX7 G (a0 0) a1 f1 A1 ++ (wX1 G (a0 1) a2 f2 A2))) H → va_S DA s.heap H locs → lv_has ls 8 [(0, .ref h0), (1, .int p1), (2, .int p2), (3, .int p3), (4, .int l4)] → W p l e rmX9_alibis s m args below meth c H locs 0 0 (MQ below (QI G DA res.1 (wX9 G h0 a0 wk f0 A0 ++ (wX7 G (a0 0) a1 res.2.1 A1 ++ (wX1 G (a0 1) a2 f2 res.2.2)))) args s 0 0 DA) (F0 m 60 ls [])) : ∀ (f1 : Nat → Int32) (A2 : Nat → Nat → Int32) (l4 : Int32), f9_alibis_b60 f0 A0 A1 f2 p1 p2 p3  k60 f1 A2 l4 = some res → ∀ (H : Heap) (locs : List Loc) (ls : Array Slot), WD G DA (wX9 G h0 a0 wk f0 A0 ++ (wX7 G (a0 0) a1 f1 A1 ++ (wX1 G (a0 1) a2 f2 A2))) H → va_S DA s.heap H locs → lv_has ls 8 [(0, .ref h0), (1, .int p1), (2, .int p2), (3, .int p3), (4, .int l4)] → W p l e rmX9_alibis s m args below meth c H locs 0 0 (MQ below (QI G DA res.1 (wX9 G h0 a0 wk f0 A0 ++ (wX7 G (a0 0) a1 res.2.1 A1 ++ (wX1 G (a0 1) a2 f2 res.2.2)))) args s 0 0 DA) (F0 m 60 ls []) := by
  obtain ⟨hx, hb, hml, hown, hts⟩ := C0.1
  have hK := C0.2.2.2.1
  intro f1 A2 l4 h _ _ _ hPD hS hl
  unfold f9_alibis_b60 at h
  refine lv_iload hx hb dX9_alibis_60 (lv_at hl 4 rfl) ?_
  refine lv_iload_n hx hb dX9_alibis_62 rfl (lv_at hl 1 rfl) ?_
  refine lv_icmp_ge (tgt := 119) hx hb dX9_alibis_63 (by decide) (fun cc1 => ?_) (fun cc1 => ?_)
  · have h := (if_pos cc1).symm.trans h
    refine lv_aload_n hx hb dX9_alibis_119 rfl (lv_at hl 0 rfl) ?_
    refine va_get (D := G.1) (ci := 9) (v := .ref (a0 1)) (C := RX9) (T := TX9) (N := 15) hx hb hts inlX9 hown hK hPD.1 0 rfl rfl 1 (by decide) (hts _ gw_351) (fun _ h9 => h9) rfl dX9_alibis_120 ?_
    refine lv_iload_n hx hb dX9_alibis_123 rfl (lv_at hl 2 rfl) ?_
    obtain ⟨q_2, hq_2, h⟩ := ob2 h
    refine kVV (As := [.int p2]) (rest := []) C0 (kt_X1_measure l G (a0 1) a2 f2 A2 p2 hq_2) gi_V_X9_230_X1_measure (n := 1) rfl (by decide +kernel) rfl ⟨rfl, rfl, Nat.le_of_ble_eq_true rfl, Nat.le_of_ble_eq_true rfl⟩ hPD hS 4 1 rfl rfl rfl [4, 5, 6, 7] [0, 1, 2, 3] [0, 1, 2, 3, 4, 5, 6, 7] (wr := (wX9 G h0 a0 wk f0 A0 ++ (wX7 G (a0 0) a1 f1 A1))) (wN := (wX9 G h0 a0 wk f0 A0 ++ (wX7 G (a0 0) a1 f1 A1 ++ (wX1 G (a0 1) a2 f2 q_2)))) rfl rfl rfl rfl rfl hl.1 (Nat.le_of_ble_eq_true rfl) dX9_alibis_124 (fun H locs hPD hS => ?_)
    refine lv_iconst (v := 0) hx hb dX9_alibis_127 (by decide) ?_
    refine lv_istore (lv' := [(4, .int 0), (0, .ref h0), (1, .int p1), (2, .int p2), (3, .int p3)]) hx hb dX9_alibis_128 hl (by decide) rfl (fun ls hl => ?_)
    refine lv_iconst (v := 0) hx hb dX9_alibis_130 (by decide) ?_
    refine lv_istore (lv' := [(5, .int 0), (4, .int 0), (0, .ref h0), (1, .int p1), (2, .int p2), (3, .int p3)]) hx hb dX9_alibis_131 hl (by decide) rfl (fun ls hl => ?_)
    exact ww_f9_alibis_l133 C0 NF f1 q_2 0 0 h _ _ _ hPD hS (lv_sub hl [2, 3, 4, 5, 1, 0] rfl)
  · have h := (if_neg cc1).symm.trans h
    refine lv_aload_n hx hb dX9_alibis_66 rfl (lv_at hl 0 rfl) ?_
    refine va_get (D := G.1) (ci := 9) (v := .ref (a0 1)) (C := RX9) (T := TX9) (N := 15) hx hb hts inlX9 hown hK hPD.1 0 rfl rfl 1 (by decide) (hts _ gw_351) (fun _ h9 => h9) rfl dX9_alibis_67 ?_
    refine lv_aload_n hx hb dX9_alibis_70 rfl (lv_at hl 0 rfl) ?_
    refine va_get (D := G.1) (ci := 9) (v := .ref (a0 0)) (C := RX9) (T := TX9) (N := 15) hx hb hts inlX9 hown hK hPD.1 0 rfl rfl 0 (by decide) (hts _ gw_363) (fun _ h9 => h9) rfl dX9_alibis_71 ?_
    refine lv_iconst (v := 4) hx hb dX9_alibis_74 (by decide) ?_
    refine lv_iload hx hb dX9_alibis_75 (lv_at hl 4 rfl) ?_
    refine lv_imul hx hb dX9_alibis_77 ?_
    refine kVI (As := [.int (4 * l4)]) (rest := [.ref (a0 1)]) C0 (kt_X7_byteAt l G (a0 0) a1 f1 A1 (4 * l4)) gi_V_X9_224_X7_byteAt (n := 1) rfl (by decide +kernel) rfl ⟨rfl, rfl, Nat.le_of_ble_eq_true rfl, Nat.le_of_ble_eq_true rfl⟩ hPD hS 2 7 rfl rfl rfl [2, 3] [0, 1, 4, 5, 6, 7] [0, 1, 6, 7, 2, 3, 4, 5] (wr := (wX9 G h0 a0 wk f0 A0 ++ (wX1 G (a0 1) a2 f2 A2))) (wN := (wX9 G h0 a0 wk f0 A0 ++ (wX7 G (a0 0) a1 f1 A1 ++ (wX1 G (a0 1) a2 f2 A2)))) rfl rfl rfl rfl rfl hl.1 (Nat.le_of_ble_eq_true rfl) dX9_alibis_78 (fun H locs hPD hS => ?_)
    refine kVI (As := [.int (f7_byteAt f1 A1 (4 * l4))]) (rest := []) C0 (kt_X1_isTold l G (a0 1) a2 f2 A2 (f7_byteAt f1 A1 (4 * l4))) gi_V_X9_108_X1_isTold (n := 1) rfl (by decide +kernel) rfl ⟨rfl, rfl, Nat.le_of_ble_eq_true rfl, Nat.le_of_ble_eq_true rfl⟩ hPD hS 4 1 rfl rfl rfl [4, 5, 6, 7] [0, 1, 2, 3] [0, 1, 2, 3, 4, 5, 6, 7] (wr := (wX9 G h0 a0 wk f0 A0 ++ (wX7 G (a0 0) a1 f1 A1))) (wN := (wX9 G h0 a0 wk f0 A0 ++ (wX7 G (a0 0) a1 f1 A1 ++ (wX1 G (a0 1) a2 f2 A2)))) rfl rfl rfl rfl rfl hl.1 (Nat.le_of_ble_eq_true rfl) dX9_alibis_81 (fun H locs hPD hS => ?_)
    refine lv_if_eq (tgt := 110) hx hb dX9_alibis_84 (by decide) (fun cc1 => ?_) (fun cc1 => ?_)
    · have h := (if_pos cc1).symm.trans h
      refine lv_bipush (v := (-2)) hx hb dX9_alibis_110 (by decide) ?_
      obtain rfl := Option.some.inj h
      exact eI C0 hPD.1 hPD.2 hS rfl dX9_alibis_112
    · have h := (if_neg cc1).symm.trans h
      refine lv_aload_n hx hb dX9_alibis_87 rfl (lv_at hl 0 rfl) ?_
      refine va_get (D := G.1) (ci := 9) (v := .ref (a0 1)) (C := RX9) (T := TX9) (N := 15) hx hb hts inlX9 hown hK hPD.1 0 rfl rfl 1 (by decide) (hts _ gw_351) (fun _ h9 => h9) rfl dX9_alibis_88 ?_
      refine lv_aload_n hx hb dX9_alibis_91 rfl (lv_at hl 0 rfl) ?_
      refine va_get (D := G.1) (ci := 9) (v := .ref (a0 0)) (C := RX9) (T := TX9) (N := 15) hx hb hts inlX9 hown hK hPD.1 0 rfl rfl 0 (by decide) (hts _ gw_363) (fun _ h9 => h9) rfl dX9_alibis_92 ?_
      refine lv_iconst (v := 4) hx hb dX9_alibis_95 (by decide) ?_
      refine lv_iload hx hb dX9_alibis_96 (lv_at hl 4 rfl) ?_
      refine lv_imul hx hb dX9_alibis_98 ?_
      refine lv_iconst (v := 2) hx hb dX9_alibis_99 (by decide) ?_
      refine lv_iadd hx hb dX9_alibis_100 ?_
      refine kVI (As := [.int ((4 * l4) + 2)]) (rest := [.ref (a0 1)]) C0 (kt_X7_byteAt l G (a0 0) a1 f1 A1 ((4 * l4) + 2)) gi_V_X9_224_X7_byteAt (n := 1) rfl (by decide +kernel) rfl ⟨rfl, rfl, Nat.le_of_ble_eq_true rfl, Nat.le_of_ble_eq_true rfl⟩ hPD hS 2 7 rfl rfl rfl [2, 3] [0, 1, 4, 5, 6, 7] [0, 1, 6, 7, 2, 3, 4, 5] (wr := (wX9 G h0 a0 wk f0 A0 ++ (wX1 G (a0 1) a2 f2 A2))) (wN := (wX9 G h0 a0 wk f0 A0 ++ (wX7 G (a0 0) a1 f1 A1 ++ (wX1 G (a0 1) a2 f2 A2)))) rfl rfl rfl rfl rfl hl.1 (Nat.le_of_ble_eq_true rfl) dX9_alibis_101 (fun H locs hPD hS => ?_)
      refine kVI (As := [.int (f7_byteAt f1 A1 ((4 * l4) + 2))]) (rest := []) C0 (kt_X1_isTold l G (a0 1) a2 f2 A2 (f7_byteAt f1 A1 ((4 * l4) + 2))) gi_V_X9_108_X1_isTold (n := 1) rfl (by decide +kernel) rfl ⟨rfl, rfl, Nat.le_of_ble_eq_true rfl, Nat.le_of_ble_eq_true rfl⟩ hPD hS 4 1 rfl rfl rfl [4, 5, 6, 7] [0, 1, 2, 3] [0, 1, 2, 3, 4, 5, 6, 7] (wr := (wX9 G h0 a0 wk f0 A0 ++ (wX7 G (a0 0) a1 f1 A1))) (wN := (wX9 G h0 a0 wk f0 A0 ++ (wX7 G (a0 0) a1 f1 A1 ++ (wX1 G (a0 1) a2 f2 A2)))) rfl rfl rfl rfl rfl hl.1 (Nat.le_of_ble_eq_true rfl) dX9_alibis_104 (fun H locs hPD hS => ?_)
      refine lv_if_ne (tgt := 113) hx hb dX9_alibis_107 (by decide) (fun cc1 => ?_) (fun cc1 => ?_)
      · have h := (if_neg cc1).symm.trans h
        refine lv_iinc (v := l4 + 1) (lv' := [(4, .int (l4 + 1)), (0, .ref h0), (1, .int p1), (2, .int p2), (3, .int p3)]) hx hb dX9_alibis_113 hl (k := 4) rfl rfl (by decide) rfl (fun ls hl => ?_)
        refine lv_goto (tgt := 60) hx hb dX9_alibis_116 (by decide) ?_
        exact hk60 f1 A2 (l4 + 1) h _ _ _ hPD hS (lv_sub hl [1, 2, 3, 4, 0] rfl)
      · have h := (if_pos cc1).symm.trans h
        refine lv_bipush (v := (-2)) hx hb dX9_alibis_110 (by decide) ?_
        obtain rfl := Option.some.inj h
        exact eI C0 hPD.1 hPD.2 hS rfl dX9_alibis_112
set_option maxRecDepth 100000 in
set_option maxHeartbeats 4000000 in
theorem ww_f9_alibis_l60  (C0 : Cx cX9_alibis 8 (some .int) RX9 p s m args meth c G DA) {h0 : Nat} {a0 : Nat → Nat} {wk : Option Nat} {a1 : Nat → Nat} {a2 : Nat → Nat} {f0 : Nat → Int32} {A0 : Nat → Nat → Int32} {A1 : Nat → Nat → Int32} {f2 : Nat → Int32} {p1 : Int32} {p2 : Int32} {p3 : Int32}   {res : Int32 × (Nat → Int32) × (Nat → Nat → Int32)}  : ∀ (n : Nat) (f1 : Nat → Int32) (A2 : Nat → Nat → Int32) (l4 : Int32), f9_alibis_l60 f0 A0 A1 f2 p1 p2 p3  n f1 A2 l4 = some res → ∀ (H : Heap) (locs : List Loc) (ls : Array Slot), WD G DA (wX9 G h0 a0 wk f0 A0 ++ (wX7 G (a0 0) a1 f1 A1 ++ (wX1 G (a0 1) a2 f2 A2))) H → va_S DA s.heap H locs → lv_has ls 8 [(0, .ref h0), (1, .int p1), (2, .int p2), (3, .int p3), (4, .int l4)] → W p l e rmX9_alibis s m args below meth c H locs 0 0 (MQ below (QI G DA res.1 (wX9 G h0 a0 wk f0 A0 ++ (wX7 G (a0 0) a1 res.2.1 A1 ++ (wX1 G (a0 1) a2 f2 res.2.2)))) args s 0 0 DA) (F0 m 60 ls []) := by
  intro n
  induction n with
  | zero => intro f1 A2 l4 h; cases h
  | succ n ih => intro f1 A2 l4 h; exact ww_f9_alibis_b60 C0  ih f1 A2 l4 h
set_option maxRecDepth 100000 in
set_option maxHeartbeats 4000000 in
theorem kt_X9_alibis (l : Launch) (G : Gp) (h0 : Nat) (a0 : Nat → Nat) (wk : Option Nat) (a1 : Nat → Nat) (a2 : Nat → Nat) (f0 : Nat → Int32) (A0 : Nat → Nat → Int32) (f1 : Nat → Int32) (A1 : Nat → Nat → Int32) (f2 : Nat → Int32) (A2 : Nat → Nat → Int32) (p1 : Int32) (p2 : Int32) (p3 : Int32) : ∀ {r : Int32 × (Nat → Int32) × (Nat → Nat → Int32)}, f9_alibis f0 A0 f1 A1 f2 A2 p1 p2 p3 = some r → CtrI l yX9_alibis cX9_alibis 8 (some .int) rmX9_alibis G [.ref h0, .int p1, .int p2, .int p3] (wX9 G h0 a0 wk f0 A0 ++ (wX7 G (a0 0) a1 f1 A1 ++ (wX1 G (a0 1) a2 f2 A2))) r.1 (wX9 G h0 a0 wk f0 A0 ++ (wX7 G (a0 0) a1 r.2.1 A1 ++ (wX1 G (a0 1) a2 f2 r.2.2))) := by
  intro res h
  refine ctrI_of (cc := cX9_alibis) (maxL := 8) (ret := (some .int)) (by decide +kernel) rfl (Nat.le_of_ble_eq_true rfl) (fun p e s m below meth c DA C0 hP hD ls hl => ?_)
  have hPD : WD G DA (wX9 G h0 a0 wk f0 A0 ++ (wX7 G (a0 0) a1 f1 A1 ++ (wX1 G (a0 1) a2 f2 A2))) s.heap := ⟨hP, hD⟩
  have hS : va_S DA s.heap s.heap [] := va_S.rf
  have hl : lv_has ls 8 [(0, .ref h0), (1, .int p1), (2, .int p2), (3, .int p3)] := hl
  obtain ⟨hx, hb, hml, hown, hts⟩ := C0.1
  have hK := C0.2.2.2.1
  unfold f9_alibis at h
  refine lv_iload_n hx hb dX9_alibis_0 rfl (lv_at hl 1 rfl) ?_
  refine lv_iconst (v := 1) hx hb dX9_alibis_1 (by decide) ?_
  refine lv_bipush (v := 10) hx hb dX9_alibis_2 (by decide) ?_
  refine kSI (As := [.int p1, .int 1, .int 10]) (rest := []) C0 (kt_X9_within l G  p1 1 10) gi_S_X9_90_X9_within (n := 3) rfl (by decide +kernel) ⟨rfl, rfl, Nat.le_of_ble_eq_true rfl, Nat.le_of_ble_eq_true rfl⟩ hPD hS [] [0, 1, 2, 3, 4, 5, 6, 7] [0, 1, 2, 3, 4, 5, 6, 7] (wr := (wX9 G h0 a0 wk f0 A0 ++ (wX7 G (a0 0) a1 f1 A1 ++ (wX1 G (a0 1) a2 f2 A2)))) (wN := (wX9 G h0 a0 wk f0 A0 ++ (wX7 G (a0 0) a1 f1 A1 ++ (wX1 G (a0 1) a2 f2 A2)))) rfl rfl rfl rfl rfl hl.1 (Nat.le_of_ble_eq_true rfl) dX9_alibis_4 (fun H locs hPD hS => ?_)
  refine lv_if_eq (tgt := 45) hx hb dX9_alibis_7 (by decide) (fun cc1 => ?_) (fun cc1 => ?_)
  · have h := (if_pos cc1).symm.trans h
    refine lv_iconst (v := (-1)) hx hb dX9_alibis_45 (by decide) ?_
    obtain rfl := Option.some.inj h
    exact eI C0 hPD.1 hPD.2 hS rfl dX9_alibis_46
  · have h := (if_neg cc1).symm.trans h
    refine lv_aload_n hx hb dX9_alibis_10 rfl (lv_at hl 0 rfl) ?_
    refine va_get (D := G.1) (ci := 9) (v := .ref (a0 1)) (C := RX9) (T := TX9) (N := 15) hx hb hts inlX9 hown hK hPD.1 0 rfl rfl 1 (by decide) (hts _ gw_351) (fun _ h9 => h9) rfl dX9_alibis_11 ?_
    refine lv_iload_n hx hb dX9_alibis_14 rfl (lv_at hl 2 rfl) ?_
    refine kVI (As := [.int p2]) (rest := []) C0 (kt_X1_isTold l G (a0 1) a2 f2 A2 p2) gi_V_X9_108_X1_isTold (n := 1) rfl (by decide +kernel) rfl ⟨rfl, rfl, Nat.le_of_ble_eq_true rfl, Nat.le_of_ble_eq_true rfl⟩ hPD hS 4 1 rfl rfl rfl [4, 5, 6, 7] [0, 1, 2, 3] [0, 1, 2, 3, 4, 5, 6, 7] (wr := (wX9 G h0 a0 wk f0 A0 ++ (wX7 G (a0 0) a1 f1 A1))) (wN := (wX9 G h0 a0 wk f0 A0 ++ (wX7 G (a0 0) a1 f1 A1 ++ (wX1 G (a0 1) a2 f2 A2)))) rfl rfl rfl rfl rfl hl.1 (Nat.le_of_ble_eq_true rfl) dX9_alibis_15 (fun H locs hPD hS => ?_)
    refine lv_if_eq (tgt := 45) hx hb dX9_alibis_18 (by decide) (fun cc1 => ?_) (fun cc1 => ?_)
    · have h := (if_pos cc1).symm.trans h
      refine lv_iconst (v := (-1)) hx hb dX9_alibis_45 (by decide) ?_
      obtain rfl := Option.some.inj h
      exact eI C0 hPD.1 hPD.2 hS rfl dX9_alibis_46
    · have h := (if_neg cc1).symm.trans h
      refine lv_iload_n hx hb dX9_alibis_21 rfl (lv_at hl 3 rfl) ?_
      refine lv_iconst (v := 0) hx hb dX9_alibis_22 (by decide) ?_
      refine lv_sipush (v := 255) hx hb dX9_alibis_23 (by decide) ?_
      refine kSI (As := [.int p3, .int 0, .int 255]) (rest := []) C0 (kt_X9_within l G  p3 0 255) gi_S_X9_90_X9_within (n := 3) rfl (by decide +kernel) ⟨rfl, rfl, Nat.le_of_ble_eq_true rfl, Nat.le_of_ble_eq_true rfl⟩ hPD hS [] [0, 1, 2, 3, 4, 5, 6, 7] [0, 1, 2, 3, 4, 5, 6, 7] (wr := (wX9 G h0 a0 wk f0 A0 ++ (wX7 G (a0 0) a1 f1 A1 ++ (wX1 G (a0 1) a2 f2 A2)))) (wN := (wX9 G h0 a0 wk f0 A0 ++ (wX7 G (a0 0) a1 f1 A1 ++ (wX1 G (a0 1) a2 f2 A2)))) rfl rfl rfl rfl rfl hl.1 (Nat.le_of_ble_eq_true rfl) dX9_alibis_26 (fun H locs hPD hS => ?_)
      refine lv_if_eq (tgt := 45) hx hb dX9_alibis_29 (by decide) (fun cc1 => ?_) (fun cc1 => ?_)
      · have h := (if_pos cc1).symm.trans h
        refine lv_iconst (v := (-1)) hx hb dX9_alibis_45 (by decide) ?_
        obtain rfl := Option.some.inj h
        exact eI C0 hPD.1 hPD.2 hS rfl dX9_alibis_46
      · have h := (if_neg cc1).symm.trans h
        refine lv_aload_n hx hb dX9_alibis_32 rfl (lv_at hl 0 rfl) ?_
        refine va_get (D := G.1) (ci := 9) (v := .ref (a0 0)) (C := RX9) (T := TX9) (N := 15) hx hb hts inlX9 hown hK hPD.1 0 rfl rfl 0 (by decide) (hts _ gw_363) (fun _ h9 => h9) rfl dX9_alibis_33 ?_
        refine lv_iconst (v := 4) hx hb dX9_alibis_36 (by decide) ?_
        refine lv_iload_n hx hb dX9_alibis_37 rfl (lv_at hl 1 rfl) ?_
        refine lv_imul hx hb dX9_alibis_38 ?_
        refine kVI (As := [.int (4 * p1)]) (rest := []) C0 (kt_X7_holds l G (a0 0) a1 f1 A1 (4 * p1)) gi_V_X9_132_X7_holds (n := 1) rfl (by decide +kernel) rfl ⟨rfl, rfl, Nat.le_of_ble_eq_true rfl, Nat.le_of_ble_eq_true rfl⟩ hPD hS 2 7 rfl rfl rfl [2, 3] [0, 1, 4, 5, 6, 7] [0, 1, 6, 7, 2, 3, 4, 5] (wr := (wX9 G h0 a0 wk f0 A0 ++ (wX1 G (a0 1) a2 f2 A2))) (wN := (wX9 G h0 a0 wk f0 A0 ++ (wX7 G (a0 0) a1 f1 A1 ++ (wX1 G (a0 1) a2 f2 A2)))) rfl rfl rfl rfl rfl hl.1 (Nat.le_of_ble_eq_true rfl) dX9_alibis_39 (fun H locs hPD hS => ?_)
        refine lv_if_ne (tgt := 47) hx hb dX9_alibis_42 (by decide) (fun cc1 => ?_) (fun cc1 => ?_)
        · have h := (if_neg cc1).symm.trans h
          refine lv_aload_n hx hb dX9_alibis_47 rfl (lv_at hl 0 rfl) ?_
          refine va_get (D := G.1) (ci := 9) (v := .ref (a0 0)) (C := RX9) (T := TX9) (N := 15) hx hb hts inlX9 hown hK hPD.1 0 rfl rfl 0 (by decide) (hts _ gw_363) (fun _ h9 => h9) rfl dX9_alibis_48 ?_
          refine lv_iconst (v := 4) hx hb dX9_alibis_51 (by decide) ?_
          refine lv_iload_n hx hb dX9_alibis_52 rfl (lv_at hl 1 rfl) ?_
          refine lv_imul hx hb dX9_alibis_53 ?_
          obtain ⟨z_1, ez_1, h⟩ := lvl h
          have kc := kt_X7_open l G (a0 0) a1 f1 A1 (4 * p1)
          rw [← ez_1] at kc
          clear ez_1
          refine kVV (As := [.int (4 * p1)]) (rest := []) C0 (kc) gi_V_X9_135_X7_open (n := 1) rfl (by decide +kernel) rfl ⟨rfl, rfl, Nat.le_of_ble_eq_true rfl, Nat.le_of_ble_eq_true rfl⟩ hPD hS 2 7 rfl rfl rfl [2, 3] [0, 1, 4, 5, 6, 7] [0, 1, 6, 7, 2, 3, 4, 5] (wr := (wX9 G h0 a0 wk f0 A0 ++ (wX1 G (a0 1) a2 f2 A2))) (wN := (wX9 G h0 a0 wk f0 A0 ++ (wX7 G (a0 0) a1 z_1 A1 ++ (wX1 G (a0 1) a2 f2 A2)))) rfl rfl rfl rfl rfl hl.1 (Nat.le_of_ble_eq_true rfl) dX9_alibis_54 (fun H locs hPD hS => ?_)
          refine lv_iconst (v := 0) hx hb dX9_alibis_57 (by decide) ?_
          refine lv_istore (lv' := [(4, .int 0), (0, .ref h0), (1, .int p1), (2, .int p2), (3, .int p3)]) hx hb dX9_alibis_58 hl (by decide) rfl (fun ls hl => ?_)
          exact ww_f9_alibis_l60 C0 NF z_1 A2 0 h _ _ _ hPD hS (lv_sub hl [1, 2, 3, 4, 0] rfl)
        · have h := (if_pos cc1).symm.trans h
          refine lv_iconst (v := (-1)) hx hb dX9_alibis_45 (by decide) ?_
          obtain rfl := Option.some.inj h
          exact eI C0 hPD.1 hPD.2 hS rfl dX9_alibis_46
abbrev rmX9_takesRanking : Room := { frames := 2, cells := 0, slots := 0, locals := 43 }
set_option maxRecDepth 100000 in
set_option maxHeartbeats 4000000 in
theorem ww_f9_takesRanking_b5  (C0 : Cx cX9_takesRanking 6 (some .boolean) RX9 p s m args meth c G DA) {h0 : Nat} {a0 : Nat → Nat} {wk : Option Nat} {a1 : Nat → Nat} {f0 : Nat → Int32} {f1 : Nat → Int32} {A1 : Nat → Nat → Int32} {p1 : Int32} {p2 : Int32}  {k5 : (Nat → Nat → Int32) → Int32 → Int32 → Option (Int32 × (Nat → Nat → Int32))} {res : Int32 × (Nat → Nat → Int32)}  (hk5 : ∀ (A0 : Nat → Nat → Int32) (l3 : Int32) (l4 : Int32), k5 A0 l3 l4 = some res → ∀ (H : Heap) (locs : List Loc) (ls : Array Slot), WD G DA (wX9 G h0 a0 wk f0 A0 ++ (wX7 G (a0 0) a1 f1 A1)) H → va_S DA s.heap H locs → lv_has ls 6 [(0, .ref h0), (1, .int p1), (2, .int p2), (3, .int l3), (4, .int l4)] → W p l e rmX9_takesRanking s m args below meth c H locs 0 0 (MQ below (QI G DA res.1 (wX9 G h0 a0 wk f0 res.2 ++ (wX7 G (a0 0) a1 f1 A1))) args s 0 0 DA) (F0 m 5 ls [])) : ∀ (A0 : Nat → Nat → Int32) (l3 : Int32) (l4 : Int32), f9_takesRanking_b5 f0 f1 A1 p1 p2  k5 A0 l3 l4 = some res → ∀ (H : Heap) (locs : List Loc) (ls : Array Slot), WD G DA (wX9 G h0 a0 wk f0 A0 ++ (wX7 G (a0 0) a1 f1 A1)) H → va_S DA s.heap H locs → lv_has ls 6 [(0, .ref h0), (1, .int p1), (2, .int p2), (3, .int l3), (4, .int l4)] → W p l e rmX9_takesRanking s m args below meth c H locs 0 0 (MQ below (QI G DA res.1 (wX9 G h0 a0 wk f0 res.2 ++ (wX7 G (a0 0) a1 f1 A1))) args s 0 0 DA) (F0 m 5 ls []) := by
  obtain ⟨hx, hb, hml, hown, hts⟩ := C0.1
  have hK := C0.2.2.2.1
  intro A0 l3 l4 h _ _ _ hPD hS hl
  unfold f9_takesRanking_b5 at h
  refine lv_iload hx hb dX9_takesRanking_5 (lv_at hl 4 rfl) ?_
  refine lv_iload_n hx hb dX9_takesRanking_7 rfl (lv_at hl 1 rfl) ?_
  refine lv_icmp_ge (tgt := 72) hx hb dX9_takesRanking_8 (by decide) (fun cc1 => ?_) (fun cc1 => ?_)
  · have h := (if_pos cc1).symm.trans h
    refine lv_iconst (v := 1) hx hb dX9_takesRanking_72 (by decide) ?_
    obtain rfl := Option.some.inj h
    exact eZ C0 hPD.1 hPD.2 hS rfl rfl dX9_takesRanking_73
  · have h := (if_neg cc1).symm.trans h
    refine lv_aload_n hx hb dX9_takesRanking_11 rfl (lv_at hl 0 rfl) ?_
    refine va_get (D := G.1) (ci := 9) (v := .ref (a0 0)) (C := RX9) (T := TX9) (N := 15) hx hb hts inlX9 hown hK hPD.1 0 rfl rfl 0 (by decide) (hts _ gw_363) (fun _ h9 => h9) rfl dX9_takesRanking_12 ?_
    refine lv_iload_n hx hb dX9_takesRanking_15 rfl (lv_at hl 2 rfl) ?_
    refine lv_iload_n hx hb dX9_takesRanking_16 rfl (lv_at hl 1 rfl) ?_
    refine lv_imul hx hb dX9_takesRanking_17 ?_
    refine lv_iload hx hb dX9_takesRanking_18 (lv_at hl 4 rfl) ?_
    refine lv_iadd hx hb dX9_takesRanking_20 ?_
    refine kVI (As := [.int ((p2 * p1) + l4)]) (rest := []) C0 (kt_X7_byteAt l G (a0 0) a1 f1 A1 ((p2 * p1) + l4)) gi_V_X9_224_X7_byteAt (n := 1) rfl (by decide +kernel) rfl ⟨rfl, rfl, Nat.le_of_ble_eq_true rfl, Nat.le_of_ble_eq_true rfl⟩ hPD hS 2 7 rfl rfl rfl [2, 3] [0, 1] [0, 1, 2, 3] (wr := (wX9 G h0 a0 wk f0 A0)) (wN := (wX9 G h0 a0 wk f0 A0 ++ (wX7 G (a0 0) a1 f1 A1))) rfl rfl rfl rfl rfl hl.1 (Nat.le_of_ble_eq_true rfl) dX9_takesRanking_21 (fun H locs hPD hS => ?_)
    refine lv_istore (lv' := [(5, .int (f7_byteAt f1 A1 ((p2 * p1) + l4))), (0, .ref h0), (1, .int p1), (2, .int p2), (3, .int l3), (4, .int l4)]) hx hb dX9_takesRanking_24 hl (by decide) rfl (fun ls hl => ?_)
    refine lv_iload hx hb dX9_takesRanking_26 (lv_at hl 0 rfl) ?_
    refine lv_iload_n hx hb dX9_takesRanking_28 rfl (lv_at hl 2 rfl) ?_
    refine lv_icmp_ge (tgt := 41) hx hb dX9_takesRanking_29 (by decide) (fun cc1 => ?_) (fun cc1 => ?_)
    · have h := (if_pos cc1).symm.trans h
      refine lv_iconst (v := 0) hx hb dX9_takesRanking_41 (by decide) ?_
      obtain rfl := Option.some.inj h
      exact eZ C0 hPD.1 hPD.2 hS rfl rfl dX9_takesRanking_42
    · have h := (if_neg cc1).symm.trans h
      refine lv_iload_n hx hb dX9_takesRanking_32 rfl (lv_at hl 4 rfl) ?_
      refine lv_iload hx hb dX9_takesRanking_33 (lv_at hl 0 rfl) ?_
      refine kSI (As := [.int l3, .int (f7_byteAt f1 A1 ((p2 * p1) + l4))]) (rest := []) C0 (kt_X9_has l G  l3 (f7_byteAt f1 A1 ((p2 * p1) + l4))) gi_S_X9_290_X9_has (n := 2) rfl (by decide +kernel) ⟨rfl, rfl, Nat.le_of_ble_eq_true rfl, Nat.le_of_ble_eq_true rfl⟩ hPD hS [] [0, 1, 2, 3] [0, 1, 2, 3] (wr := (wX9 G h0 a0 wk f0 A0 ++ (wX7 G (a0 0) a1 f1 A1))) (wN := (wX9 G h0 a0 wk f0 A0 ++ (wX7 G (a0 0) a1 f1 A1))) rfl rfl rfl rfl rfl hl.1 (Nat.le_of_ble_eq_true rfl) dX9_takesRanking_35 (fun H locs hPD hS => ?_)
      refine lv_if_eq (tgt := 43) hx hb dX9_takesRanking_38 (by decide) (fun cc1 => ?_) (fun cc1 => ?_)
      · have h := (if_pos cc1).symm.trans h
        refine lv_iload_n hx hb dX9_takesRanking_43 rfl (lv_at hl 4 rfl) ?_
        refine lv_iconst (v := 1) hx hb dX9_takesRanking_44 (by decide) ?_
        refine lv_iload hx hb dX9_takesRanking_45 (lv_at hl 0 rfl) ?_
        refine lv_ishl hx hb dX9_takesRanking_47 ?_
        refine lv_ior hx hb dX9_takesRanking_48 ?_
        obtain ⟨x_1, ex_1, h⟩ := lvl h
        refine lv_nm ex_1 ?_
        refine lv_istore_n (lv' := [(3, .int x_1), (5, .int (f7_byteAt f1 A1 ((p2 * p1) + l4))), (0, .ref h0), (1, .int p1), (2, .int p2), (4, .int l4)]) hx hb dX9_takesRanking_49 rfl hl (by decide) rfl (fun ls hl => ?_)
        refine lv_aload_n hx hb dX9_takesRanking_50 rfl (lv_at hl 2 rfl) ?_
        refine va_get (D := G.1) (ci := 9) (v := .ref (a0 9)) (C := RX9) (T := TX9) (N := 15) hx hb hts inlX9 hown hK hPD.1 0 rfl rfl 9 (by decide) (hts _ gw_500) (fun _ h9 => h9) rfl dX9_takesRanking_51 ?_
        refine lv_iload_n hx hb dX9_takesRanking_54 rfl (lv_at hl 4 rfl) ?_
        refine lv_bipush (v := 6) hx hb dX9_takesRanking_55 (by decide) ?_
        refine lv_imul hx hb dX9_takesRanking_57 ?_
        refine lv_iload hx hb dX9_takesRanking_58 (lv_at hl 1 rfl) ?_
        refine lv_iadd hx hb dX9_takesRanking_60 ?_
        refine lv_iload hx hb dX9_takesRanking_61 (lv_at hl 5 rfl) ?_
        obtain ⟨z_2, ez_2, h⟩ := lvl h
        have kc := kt_X9_put l G (a0 9) 54 (A0 9) ((p2 * 6) + (f7_byteAt f1 A1 ((p2 * p1) + l4))) l4 (by decide)
        rw [← ez_2] at kc
        clear ez_2
        refine kSV (As := [.ref (a0 9), .int ((p2 * 6) + (f7_byteAt f1 A1 ((p2 * p1) + l4))), .int l4]) (rest := []) C0 (kc) gi_S_X9_101_X9_put (n := 3) rfl (by decide +kernel) ⟨rfl, rfl, Nat.le_of_ble_eq_true rfl, Nat.le_of_ble_eq_true rfl⟩ hPD hS [1] [0, 2, 3] [0, 3, 1, 2] (wr := pick (wX9 G h0 a0 wk f0 A0 ++ (wX7 G (a0 0) a1 f1 A1)) [0, 2, 3]) (wN := (wX9 G h0 a0 wk f0 (updA A0 9 z_2) ++ (wX7 G (a0 0) a1 f1 A1))) rfl rfl rfl rfl rfl hl.1 (Nat.le_of_ble_eq_true rfl) dX9_takesRanking_63 (fun H locs hPD hS => ?_)
        obtain ⟨A0_3, eA0_3, h⟩ := lvl h
        have hPD : WD G DA (wX9 G h0 a0 wk f0 A0_3 ++ (wX7 G (a0 0) a1 f1 A1)) H := by rw [eA0_3]; exact hPD
        clear eA0_3
        refine lv_iinc (v := l4 + 1) (lv' := [(4, .int (l4 + 1)), (3, .int x_1), (5, .int (f7_byteAt f1 A1 ((p2 * p1) + l4))), (0, .ref h0), (1, .int p1), (2, .int p2)]) hx hb dX9_takesRanking_66 hl (k := 5) rfl rfl (by decide) rfl (fun ls hl => ?_)
        refine lv_goto (tgt := 5) hx hb dX9_takesRanking_69 (by decide) ?_
        exact hk5 A0_3 x_1 (l4 + 1) h _ _ _ hPD hS (lv_sub hl [3, 4, 5, 1, 0] rfl)
      · have h := (if_neg cc1).symm.trans h
        refine lv_iconst (v := 0) hx hb dX9_takesRanking_41 (by decide) ?_
        obtain rfl := Option.some.inj h
        exact eZ C0 hPD.1 hPD.2 hS rfl rfl dX9_takesRanking_42
set_option maxRecDepth 100000 in
set_option maxHeartbeats 4000000 in
theorem ww_f9_takesRanking_l5  (C0 : Cx cX9_takesRanking 6 (some .boolean) RX9 p s m args meth c G DA) {h0 : Nat} {a0 : Nat → Nat} {wk : Option Nat} {a1 : Nat → Nat} {f0 : Nat → Int32} {f1 : Nat → Int32} {A1 : Nat → Nat → Int32} {p1 : Int32} {p2 : Int32}   {res : Int32 × (Nat → Nat → Int32)}  : ∀ (n : Nat) (A0 : Nat → Nat → Int32) (l3 : Int32) (l4 : Int32), f9_takesRanking_l5 f0 f1 A1 p1 p2  n A0 l3 l4 = some res → ∀ (H : Heap) (locs : List Loc) (ls : Array Slot), WD G DA (wX9 G h0 a0 wk f0 A0 ++ (wX7 G (a0 0) a1 f1 A1)) H → va_S DA s.heap H locs → lv_has ls 6 [(0, .ref h0), (1, .int p1), (2, .int p2), (3, .int l3), (4, .int l4)] → W p l e rmX9_takesRanking s m args below meth c H locs 0 0 (MQ below (QI G DA res.1 (wX9 G h0 a0 wk f0 res.2 ++ (wX7 G (a0 0) a1 f1 A1))) args s 0 0 DA) (F0 m 5 ls []) := by
  intro n
  induction n with
  | zero => intro A0 l3 l4 h; cases h
  | succ n ih => intro A0 l3 l4 h; exact ww_f9_takesRanking_b5 C0  ih A0 l3 l4 h
set_option maxRecDepth 100000 in
set_option maxHeartbeats 4000000 in
theorem kt_X9_takesRanking (l : Launch) (G : Gp) (h0 : Nat) (a0 : Nat → Nat) (wk : Option Nat) (a1 : Nat → Nat) (f0 : Nat → Int32) (A0 : Nat → Nat → Int32) (f1 : Nat → Int32) (A1 : Nat → Nat → Int32) (p1 : Int32) (p2 : Int32) : ∀ {r : Int32 × (Nat → Nat → Int32)}, f9_takesRanking f0 A0 f1 A1 p1 p2 = some r → CtrI l yX9_takesRanking cX9_takesRanking 6 (some .boolean) rmX9_takesRanking G [.ref h0, .int p1, .int p2] (wX9 G h0 a0 wk f0 A0 ++ (wX7 G (a0 0) a1 f1 A1)) r.1 (wX9 G h0 a0 wk f0 r.2 ++ (wX7 G (a0 0) a1 f1 A1)) := by
  intro res h
  refine ctrI_of (cc := cX9_takesRanking) (maxL := 6) (ret := (some .boolean)) (by decide +kernel) rfl (Nat.le_of_ble_eq_true rfl) (fun p e s m below meth c DA C0 hP hD ls hl => ?_)
  have hPD : WD G DA (wX9 G h0 a0 wk f0 A0 ++ (wX7 G (a0 0) a1 f1 A1)) s.heap := ⟨hP, hD⟩
  have hS : va_S DA s.heap s.heap [] := va_S.rf
  have hl : lv_has ls 6 [(0, .ref h0), (1, .int p1), (2, .int p2)] := hl
  obtain ⟨hx, hb, hml, hown, hts⟩ := C0.1
  have hK := C0.2.2.2.1
  unfold f9_takesRanking at h
  refine lv_iconst (v := 0) hx hb dX9_takesRanking_0 (by decide) ?_
  refine lv_istore_n (lv' := [(3, .int 0), (0, .ref h0), (1, .int p1), (2, .int p2)]) hx hb dX9_takesRanking_1 rfl hl (by decide) rfl (fun ls hl => ?_)
  refine lv_iconst (v := 0) hx hb dX9_takesRanking_2 (by decide) ?_
  refine lv_istore (lv' := [(4, .int 0), (3, .int 0), (0, .ref h0), (1, .int p1), (2, .int p2)]) hx hb dX9_takesRanking_3 hl (by decide) rfl (fun ls hl => ?_)
  exact ww_f9_takesRanking_l5 C0 NF A0 0 0 h _ _ _ hPD hS (lv_sub hl [2, 3, 4, 1, 0] rfl)
abbrev rmX9_judgesFor : Room := { frames := 1, cells := 0, slots := 0, locals := 21 }
set_option maxRecDepth 100000 in
set_option maxHeartbeats 4000000 in
theorem ww_f9_judgesFor_b6  (C0 : Cx cX9_judgesFor 6 (some .int) RX9 p s m args meth c G DA) {h0 : Nat} {a0 : Nat → Nat} {wk : Option Nat} {f0 : Nat → Int32} {A0 : Nat → Nat → Int32} {p1 : Int32} {p2 : Int32} {p3 : Int32}  {k6 : Int32 → Int32 → Option (Int32)} {res : Int32}  (hk6 : ∀ (l4 : Int32) (l5 : Int32), k6 l4 l5 = some res → ∀ (H : Heap) (locs : List Loc) (ls : Array Slot), WD G DA (wX9 G h0 a0 wk f0 A0) H → va_S DA s.heap H locs → lv_has ls 6 [(0, .ref h0), (1, .int p1), (2, .int p2), (3, .int p3), (4, .int l4), (5, .int l5)] → W p l e rmX9_judgesFor s m args below meth c H locs 0 0 (MQ below (QI G DA res (wX9 G h0 a0 wk f0 A0)) args s 0 0 DA) (F0 m 6 ls [])) : ∀ (l4 : Int32) (l5 : Int32), f9_judgesFor_b6 f0 A0 p1 p2 p3  k6 l4 l5 = some res → ∀ (H : Heap) (locs : List Loc) (ls : Array Slot), WD G DA (wX9 G h0 a0 wk f0 A0) H → va_S DA s.heap H locs → lv_has ls 6 [(0, .ref h0), (1, .int p1), (2, .int p2), (3, .int p3), (4, .int l4), (5, .int l5)] → W p l e rmX9_judgesFor s m args below meth c H locs 0 0 (MQ below (QI G DA res (wX9 G h0 a0 wk f0 A0)) args s 0 0 DA) (F0 m 6 ls []) := by
  obtain ⟨hx, hb, hml, hown, hts⟩ := C0.1
  have hK := C0.2.2.2.1
  intro l4 l5 h _ _ _ hPD hS hl
  unfold f9_judgesFor_b6 at h
  refine lv_iload hx hb dX9_judgesFor_6 (lv_at hl 5 rfl) ?_
  refine lv_iload_n hx hb dX9_judgesFor_8 rfl (lv_at hl 3 rfl) ?_
  refine lv_icmp_ge (tgt := 52) hx hb dX9_judgesFor_9 (by decide) (fun cc1 => ?_) (fun cc1 => ?_)
  · have h := (if_pos cc1).symm.trans h
    refine lv_iload hx hb dX9_judgesFor_52 (lv_at hl 4 rfl) ?_
    obtain rfl := Option.some.inj h
    exact eI C0 hPD.1 hPD.2 hS rfl dX9_judgesFor_54
  · have h := (if_neg cc1).symm.trans h
    refine lv_aload_n hx hb dX9_judgesFor_12 rfl (lv_at hl 0 rfl) ?_
    refine va_get (D := G.1) (ci := 9) (v := .ref (a0 9)) (C := RX9) (T := TX9) (N := 15) hx hb hts inlX9 hown hK hPD.1 0 rfl rfl 9 (by decide) (hts _ gw_500) (fun _ h9 => h9) rfl dX9_judgesFor_13 ?_
    refine lv_iload hx hb dX9_judgesFor_16 (lv_at hl 5 rfl) ?_
    refine lv_bipush (v := 6) hx hb dX9_judgesFor_18 (by decide) ?_
    refine lv_imul hx hb dX9_judgesFor_20 ?_
    refine lv_iload_n hx hb dX9_judgesFor_21 rfl (lv_at hl 1 rfl) ?_
    refine lv_iadd hx hb dX9_judgesFor_22 ?_
    refine kSI (As := [.ref (a0 9), .int ((l5 * 6) + p1)]) (rest := []) C0 (kt_X9_at l G (a0 9) 54 (A0 9) ((l5 * 6) + p1) (by decide)) gi_S_X9_188_X9_at (n := 2) rfl (by decide +kernel) ⟨rfl, rfl, Nat.le_of_ble_eq_true rfl, Nat.le_of_ble_eq_true rfl⟩ hPD hS [1] [0] [0, 1] (wr := pick (wX9 G h0 a0 wk f0 A0) [0]) (wN := (wX9 G h0 a0 wk f0 A0)) rfl rfl rfl rfl rfl hl.1 (Nat.le_of_ble_eq_true rfl) dX9_judgesFor_23 (fun H locs hPD hS => ?_)
    refine lv_aload_n hx hb dX9_judgesFor_26 rfl (lv_at hl 0 rfl) ?_
    refine va_get (D := G.1) (ci := 9) (v := .ref (a0 9)) (C := RX9) (T := TX9) (N := 15) hx hb hts inlX9 hown hK hPD.1 0 rfl rfl 9 (by decide) (hts _ gw_500) (fun _ h9 => h9) rfl dX9_judgesFor_27 ?_
    refine lv_iload hx hb dX9_judgesFor_30 (lv_at hl 5 rfl) ?_
    refine lv_bipush (v := 6) hx hb dX9_judgesFor_32 (by decide) ?_
    refine lv_imul hx hb dX9_judgesFor_34 ?_
    refine lv_iload_n hx hb dX9_judgesFor_35 rfl (lv_at hl 2 rfl) ?_
    refine lv_iadd hx hb dX9_judgesFor_36 ?_
    refine kSI (As := [.ref (a0 9), .int ((l5 * 6) + p2)]) (rest := [.int (f9_at 54 (A0 9) ((l5 * 6) + p1))]) C0 (kt_X9_at l G (a0 9) 54 (A0 9) ((l5 * 6) + p2) (by decide)) gi_S_X9_188_X9_at (n := 2) rfl (by decide +kernel) ⟨rfl, rfl, Nat.le_of_ble_eq_true rfl, Nat.le_of_ble_eq_true rfl⟩ hPD hS [1] [0] [0, 1] (wr := pick (wX9 G h0 a0 wk f0 A0) [0]) (wN := (wX9 G h0 a0 wk f0 A0)) rfl rfl rfl rfl rfl hl.1 (Nat.le_of_ble_eq_true rfl) dX9_judgesFor_37 (fun H locs hPD hS => ?_)
    refine lv_icmp_ge (tgt := 46) hx hb dX9_judgesFor_40 (by decide) (fun cc1 => ?_) (fun cc1 => ?_)
    · have h := (if_pos cc1).symm.trans h
      refine lv_iinc (v := l5 + 1) (lv' := [(5, .int (l5 + 1)), (0, .ref h0), (1, .int p1), (2, .int p2), (3, .int p3), (4, .int l4)]) hx hb dX9_judgesFor_46 hl (k := 5) rfl rfl (by decide) rfl (fun ls hl => ?_)
      refine lv_goto (tgt := 6) hx hb dX9_judgesFor_49 (by decide) ?_
      exact hk6 l4 (l5 + 1) h _ _ _ hPD hS (lv_sub hl [1, 2, 3, 4, 5, 0] rfl)
    · have h := (if_neg cc1).symm.trans h
      refine lv_iinc (v := l4 + 1) (lv' := [(4, .int (l4 + 1)), (0, .ref h0), (1, .int p1), (2, .int p2), (3, .int p3), (5, .int l5)]) hx hb dX9_judgesFor_43 hl (k := 4) rfl rfl (by decide) rfl (fun ls hl => ?_)
      refine lv_iinc (v := l5 + 1) (lv' := [(5, .int (l5 + 1)), (4, .int (l4 + 1)), (0, .ref h0), (1, .int p1), (2, .int p2), (3, .int p3)]) hx hb dX9_judgesFor_46 hl (k := 5) rfl rfl (by decide) rfl (fun ls hl => ?_)
      refine lv_goto (tgt := 6) hx hb dX9_judgesFor_49 (by decide) ?_
      exact hk6 (l4 + 1) (l5 + 1) h _ _ _ hPD hS (lv_sub hl [2, 3, 4, 5, 1, 0] rfl)
end WALK
