section WALK
variable {p : Program} {l : Launch} {e : Env} {s : State} {m : MethodId} {args : Array Value} {below : List Frame} {meth : Method} {c : Code} {G : Gp} {DA : Nat → Prop}
abbrev rmJ9_floorMod_7cf53 : Room := { frames := 0, cells := 0, slots := 0, locals := 0 }
set_option maxRecDepth 100000 in
set_option maxHeartbeats 4000000 in
theorem kt_J9_floorMod_7cf53 (l : Launch) (G : Gp) (p0 : Int32) (p1 : Int32) : ∀ {r : Int32}, fJ9_floorMod_7cf53 p0 p1 = some r → CtrI l yJ9_floorMod_7cf53 cJ9_floorMod_7cf53 3 (some .int) rmJ9_floorMod_7cf53 G [.int p0, .int p1] ([] : va_W) r ([] : va_W) := by
  intro res h
  refine ctrI_ofF (cc := cJ9_floorMod_7cf53) (maxL := 3) (ret := (some .int)) (by decide +kernel) rfl (Nat.le_of_ble_eq_true rfl) (fun p e s m below meth c DA C0 hP hD ls hl => ?_)
  have hPD : WD G DA ([] : va_W) s.heap := ⟨hP, hD⟩
  have hS : va_S DA s.heap s.heap [] := va_S.rf
  have hl : lv_has ls 3 [(0, .int p0), (1, .int p1)] := hl
  obtain ⟨hx, hb, hml, hown, hts⟩ := C0.1
  have hK := C0.2.2.2.1
  unfold fJ9_floorMod_7cf53 at h
  refine lv_iload_n hx hb dJ9_floorMod_7cf53_0 rfl (lv_at hl 0 rfl) ?_
  refine lv_iload_n hx hb dJ9_floorMod_7cf53_1 rfl (lv_at hl 1 rfl) ?_
  obtain ⟨hz, h⟩ := ob h
  refine lv_irem hx hb dJ9_floorMod_7cf53_2 hz ?_
  refine lv_istore_n (lv' := [(2, .int (irm p0 p1)), (0, .int p0), (1, .int p1)]) hx hb dJ9_floorMod_7cf53_3 rfl hl (by decide) rfl (fun ls hl => ?_)
  refine lv_iload_n hx hb dJ9_floorMod_7cf53_4 rfl (lv_at hl 1 rfl) ?_
  refine lv_iload_n hx hb dJ9_floorMod_7cf53_5 rfl (lv_at hl 2 rfl) ?_
  refine lv_ixor hx hb dJ9_floorMod_7cf53_6 ?_
  refine lv_if_ge (tgt := 18) hx hb dJ9_floorMod_7cf53_7 (by decide) (fun cc1 => ?_) (fun cc1 => ?_)
  · have h := (if_pos cc1).symm.trans h
    refine lv_iload_n hx hb dJ9_floorMod_7cf53_18 rfl (lv_at hl 0 rfl) ?_
    obtain rfl := Option.some.inj h
    exact eI C0 hPD.1 hPD.2 hS rfl dJ9_floorMod_7cf53_19
  · have h := (if_neg cc1).symm.trans h
    refine lv_iload_n hx hb dJ9_floorMod_7cf53_10 rfl (lv_at hl 0 rfl) ?_
    refine lv_if_eq (tgt := 18) hx hb dJ9_floorMod_7cf53_11 (by decide) (fun cc1 => ?_) (fun cc1 => ?_)
    · have h := (if_pos cc1).symm.trans h
      refine lv_iload_n hx hb dJ9_floorMod_7cf53_18 rfl (lv_at hl 0 rfl) ?_
      obtain rfl := Option.some.inj h
      exact eI C0 hPD.1 hPD.2 hS rfl dJ9_floorMod_7cf53_19
    · have h := (if_neg cc1).symm.trans h
      refine lv_iload_n hx hb dJ9_floorMod_7cf53_14 rfl (lv_at hl 0 rfl) ?_
      refine lv_iload_n hx hb dJ9_floorMod_7cf53_15 rfl (lv_at hl 2 rfl) ?_
      refine lv_iadd hx hb dJ9_floorMod_7cf53_16 ?_
      obtain rfl := Option.some.inj h
      exact eI C0 hPD.1 hPD.2 hS rfl dJ9_floorMod_7cf53_17
abbrev rmX9_at : Room := { frames := 0, cells := 0, slots := 0, locals := 0 }
theorem idx_cond {n : Nat} (hn : n < 2147483648) {i : Int32} (h0 : ¬ i < 0) : nI n ≤ i ↔ n ≤ i.toNatClampNeg := by
  obtain ⟨j, hj, rfl⟩ := nI_of h0
  rw [nI_clamp hj, nI_leI (by omega) hj]
set_option maxRecDepth 100000 in
set_option maxHeartbeats 4000000 in
theorem kt_X9_at (l : Launch) (G : Gp) (q0 : Nat) (n0 : Nat) (xs0 : Nat → Int32) (p1 : Int32) (hn0 : n0 < 2147483648) : CtrI l yX9_at cX9_at 2 (some .int) rmX9_at G [.ref q0, .int p1] (wI G q0 n0 xs0) (f9_at n0 xs0 p1) (wI G q0 n0 xs0) := by
  refine ctrI_of (cc := cX9_at) (maxL := 2) (ret := (some .int)) (by decide) rfl (Nat.le_of_ble_eq_true rfl) (fun p e s m below meth c DA C0 hP hD ls hl => ?_)
  have hPD : WD G DA (wI G q0 n0 xs0) s.heap := ⟨hP, hD⟩
  have hS : va_S DA s.heap s.heap [] := va_S.rf
  have hl : lv_has ls 2 [(0, .ref q0), (1, .int p1)] := hl
  obtain ⟨hx, hb, hml, hown, hts⟩ := C0.1
  have hK := C0.2.2.2.1
  unfold f9_at
  refine lv_iload_n hx hb dX9_at_0 rfl (lv_at hl 1 rfl) ?_
  refine lv_if_lt (tgt := 16) hx hb dX9_at_1 (by decide) (fun cc1 => ?_) (fun cc1 => ?_)
  · refine lv_iconst (v := 0) hx hb dX9_at_16 (by decide) ?_
    exact eI C0 hPD.1 hPD.2 hS (if_pos (Or.inl cc1)).symm dX9_at_17
  · refine lv_iload_n hx hb dX9_at_4 rfl (lv_at hl 1 rfl) ?_
    refine lv_aload_n hx hb dX9_at_5 rfl (lv_at hl 0 rfl) ?_
    refine va_alen (v := nI n0) hx hb hK hPD.1 0 1 rfl rfl rfl dX9_at_6 ?_
    refine lv_icmp_ge (tgt := 16) hx hb dX9_at_7 (by decide) (fun cc2 => ?_) (fun cc2 => ?_)
    · refine lv_iconst (v := 0) hx hb dX9_at_16 (by decide) ?_
      exact eI C0 hPD.1 hPD.2 hS (if_pos (Or.inr ((idx_cond hn0 cc1).mp cc2))).symm dX9_at_17
    · have hi : ¬ (p1 < 0 ∨ n0 ≤ p1.toNatClampNeg) := fun h => h.elim cc1 (fun h => cc2 ((idx_cond hn0 cc1).mpr h))
      refine lv_aload_n hx hb dX9_at_10 rfl (lv_at hl 0 rfl) ?_
      refine lv_iload_n hx hb dX9_at_11 rfl (lv_at hl 1 rfl) ?_
      refine va_iald hx hb hK hPD.1 0 1 rfl rfl hi dX9_at_12 ?_
      refine lv_goto (tgt := 17) hx hb dX9_at_13 (by decide) ?_
      exact eI C0 hPD.1 hPD.2 hS (if_neg hi).symm dX9_at_17
abbrev rmX0_stepAt : Room := { frames := 1, cells := 0, slots := 0, locals := 22 }
set_option maxRecDepth 100000 in
set_option maxHeartbeats 4000000 in
theorem kt_X0_stepAt (l : Launch) (G : Gp) (h0 : Nat) (a0 : Nat → Nat) (f0 : Nat → Int32) (A0 : Nat → Nat → Int32) (p1 : Int32) : ∀ {r : Int32}, f0_stepAt f0 A0 p1 = some r → CtrI l yX0_stepAt cX0_stepAt 2 (some .int) rmX0_stepAt G [.ref h0, .int p1] (wX0 G h0 a0 f0 A0) r (wX0 G h0 a0 f0 A0) := by
  intro res h
  refine ctrI_of (cc := cX0_stepAt) (maxL := 2) (ret := (some .int)) (by decide +kernel) rfl (Nat.le_of_ble_eq_true rfl) (fun p e s m below meth c DA C0 hP hD ls hl => ?_)
  have hPD : WD G DA (wX0 G h0 a0 f0 A0) s.heap := ⟨hP, hD⟩
  have hS : va_S DA s.heap s.heap [] := va_S.rf
  have hl : lv_has ls 2 [(0, .ref h0), (1, .int p1)] := hl
  obtain ⟨hx, hb, hml, hown, hts⟩ := C0.1
  have hK := C0.2.2.2.1
  unfold f0_stepAt at h
  refine lv_aload_n hx hb dX0_stepAt_0 rfl (lv_at hl 0 rfl) ?_
  refine va_get (D := G.1) (ci := 0) (v := .int (f0 1)) (C := RX0) (T := TX0) (N := 2) hx hb hts inlX0 hown hK hPD.1 0 rfl rfl 1 (by decide) (hts _ gw_0) (fun _ h9 => h9) rfl dX0_stepAt_1 ?_
  refine lv_if_le (tgt := 25) hx hb dX0_stepAt_4 (by decide) (fun cc1 => ?_) (fun cc1 => ?_)
  · have h := (if_pos cc1).symm.trans h
    refine lv_iconst (v := (-1)) hx hb dX0_stepAt_25 (by decide) ?_
    obtain rfl := Option.some.inj h
    exact eI C0 hPD.1 hPD.2 hS rfl dX0_stepAt_26
  · have h := (if_neg cc1).symm.trans h
    refine lv_aload_n hx hb dX0_stepAt_7 rfl (lv_at hl 0 rfl) ?_
    refine va_get (D := G.1) (ci := 0) (v := .ref (a0 0)) (C := RX0) (T := TX0) (N := 2) hx hb hts inlX0 hown hK hPD.1 0 rfl rfl 0 (by decide) (hts _ gw_1) (fun _ h9 => h9) rfl dX0_stepAt_8 ?_
    refine lv_iload_n hx hb dX0_stepAt_11 rfl (lv_at hl 1 rfl) ?_
    refine lv_aload_n hx hb dX0_stepAt_12 rfl (lv_at hl 0 rfl) ?_
    refine va_get (D := G.1) (ci := 0) (v := .int (f0 1)) (C := RX0) (T := TX0) (N := 2) hx hb hts inlX0 hown hK hPD.1 0 rfl rfl 1 (by decide) (hts _ gw_0) (fun _ h9 => h9) rfl dX0_stepAt_13 ?_
    obtain ⟨q_1, hq_1, h⟩ := ob2 h
    refine kSI (As := [.int p1, .int (f0 1)]) (rest := [.ref (a0 0)]) C0 (kt_J9_floorMod_7cf53 l G  p1 (f0 1) hq_1) gi_S_X0_19_J9_floorMod_7cf53 (n := 2) rfl (by decide +kernel) ⟨rfl, rfl, Nat.le_of_ble_eq_true rfl, Nat.le_of_ble_eq_true rfl⟩ hPD hS [] [0, 1] [0, 1] (wN := (wX0 G h0 a0 f0 A0)) rfl rfl rfl rfl rfl hl.1 (Nat.le_of_ble_eq_true rfl) dX0_stepAt_16 (fun H locs hPD hS => ?_)
    refine kNI (As := [.ref (a0 0), .int q_1]) (rest := []) C0 (kt_X9_at l G (a0 0) 48 (A0 0) q_1 (by decide)) gi_U_X9_at (host := "IdleCrimes") (index := 25) (List.mem_of_getElem? (i := 15) rfl) gw_6 gw_7 (n := 2) rfl (by decide +kernel) ⟨rfl, rfl, Nat.le_of_ble_eq_true rfl, Nat.le_of_ble_eq_true rfl⟩ hPD hS [1] [0] [0, 1] (wN := (wX0 G h0 a0 f0 A0)) rfl rfl rfl rfl rfl hl.1 (Nat.le_of_ble_eq_true rfl) dX0_stepAt_19 (fun H locs hPD hS => ?_)
    refine lv_goto (tgt := 26) hx hb dX0_stepAt_22 (by decide) ?_
    obtain rfl := Option.some.inj h
    exact eI C0 hPD.1 hPD.2 hS rfl dX0_stepAt_26
abbrev rmX7_isFine : Room := { frames := 0, cells := 0, slots := 0, locals := 0 }
set_option maxRecDepth 100000 in
set_option maxHeartbeats 4000000 in
theorem kt_X7_isFine (l : Launch) (G : Gp) (h0 : Nat) (a0 : Nat → Nat) (f0 : Nat → Int32) (A0 : Nat → Nat → Int32) : CtrI l yX7_isFine cX7_isFine 1 (some .boolean) rmX7_isFine G [.ref h0] (wX7 G h0 a0 f0 A0) (f7_isFine f0 A0) (wX7 G h0 a0 f0 A0) := by
  obtain ⟨res, h⟩ : ∃ res, f7_isFine f0 A0 = res := ⟨_, rfl⟩
  rw [h]
  refine ctrI_of (cc := cX7_isFine) (maxL := 1) (ret := (some .boolean)) (by decide +kernel) rfl (Nat.le_of_ble_eq_true rfl) (fun p e s m below meth c DA C0 hP hD ls hl => ?_)
  have hPD : WD G DA (wX7 G h0 a0 f0 A0) s.heap := ⟨hP, hD⟩
  have hS : va_S DA s.heap s.heap [] := va_S.rf
  have hl : lv_has ls 1 [(0, .ref h0)] := hl
  obtain ⟨hx, hb, hml, hown, hts⟩ := C0.1
  have hK := C0.2.2.2.1
  unfold f7_isFine at h
  refine lv_aload_n hx hb dX7_isFine_0 rfl (lv_at hl 0 rfl) ?_
  refine va_get (D := G.1) (ci := 7) (v := .int (f0 4)) (C := RX7) (T := TX7) (N := 6) hx hb hts inlX7 hown hK hPD.1 0 rfl rfl 4 (by decide) (hts _ gw_9) (fun _ h9 => h9) rfl dX7_isFine_1 ?_
  refine lv_if_ne (tgt := 11) hx hb dX7_isFine_4 (by decide) (fun cc1 => ?_) (fun cc1 => ?_)
  · have h := (if_neg cc1).symm.trans h
    refine lv_iconst (v := 0) hx hb dX7_isFine_11 (by decide) ?_
    subst h
    exact eZ C0 hPD.1 hPD.2 hS rfl rfl dX7_isFine_12
  · have h := (if_pos cc1).symm.trans h
    refine lv_iconst (v := 1) hx hb dX7_isFine_7 (by decide) ?_
    refine lv_goto (tgt := 12) hx hb dX7_isFine_8 (by decide) ?_
    subst h
    exact eZ C0 hPD.1 hPD.2 hS rfl rfl dX7_isFine_12
abbrev rmX7_look : Room := { frames := 1, cells := 0, slots := 0, locals := 21 }
set_option maxRecDepth 100000 in
set_option maxHeartbeats 4000000 in
theorem kt_X7_look (l : Launch) (G : Gp) (h0 : Nat) (a0 : Nat → Nat) (f0 : Nat → Int32) (A0 : Nat → Nat → Int32) : CtrI l yX7_look cX7_look 1 (some .int) rmX7_look G [.ref h0] (wX7 G h0 a0 f0 A0) (f7_look f0 A0) (wX7 G h0 a0 f0 A0) := by
  obtain ⟨res, h⟩ : ∃ res, f7_look f0 A0 = res := ⟨_, rfl⟩
  rw [h]
  refine ctrI_of (cc := cX7_look) (maxL := 1) (ret := (some .int)) (by decide +kernel) rfl (Nat.le_of_ble_eq_true rfl) (fun p e s m below meth c DA C0 hP hD ls hl => ?_)
  have hPD : WD G DA (wX7 G h0 a0 f0 A0) s.heap := ⟨hP, hD⟩
  have hS : va_S DA s.heap s.heap [] := va_S.rf
  have hl : lv_has ls 1 [(0, .ref h0)] := hl
  obtain ⟨hx, hb, hml, hown, hts⟩ := C0.1
  have hK := C0.2.2.2.1
  unfold f7_look at h
  refine lv_aload_n hx hb dX7_look_0 rfl (lv_at hl 0 rfl) ?_
  refine va_get (D := G.1) (ci := 7) (v := .int (f0 3)) (C := RX7) (T := TX7) (N := 6) hx hb hts inlX7 hown hK hPD.1 0 rfl rfl 3 (by decide) (hts _ gw_10) (fun _ h9 => h9) rfl dX7_look_1 ?_
  refine lv_aload_n hx hb dX7_look_4 rfl (lv_at hl 0 rfl) ?_
  refine va_get (D := G.1) (ci := 7) (v := .int (f0 2)) (C := RX7) (T := TX7) (N := 6) hx hb hts inlX7 hown hK hPD.1 0 rfl rfl 2 (by decide) (hts _ gw_11) (fun _ h9 => h9) rfl dX7_look_5 ?_
  refine lv_icmp_ge (tgt := 25) hx hb dX7_look_8 (by decide) (fun cc1 => ?_) (fun cc1 => ?_)
  · have h := (if_pos cc1).symm.trans h
    refine lv_iconst (v := (-1)) hx hb dX7_look_25 (by decide) ?_
    subst h
    exact eI C0 hPD.1 hPD.2 hS rfl dX7_look_26
  · have h := (if_neg cc1).symm.trans h
    refine lv_aload_n hx hb dX7_look_11 rfl (lv_at hl 0 rfl) ?_
    refine va_get (D := G.1) (ci := 7) (v := .ref (a0 0)) (C := RX7) (T := TX7) (N := 6) hx hb hts inlX7 hown hK hPD.1 0 rfl rfl 0 (by decide) (hts _ gw_12) (fun _ h9 => h9) rfl dX7_look_12 ?_
    refine lv_aload_n hx hb dX7_look_15 rfl (lv_at hl 0 rfl) ?_
    refine va_get (D := G.1) (ci := 7) (v := .int (f0 3)) (C := RX7) (T := TX7) (N := 6) hx hb hts inlX7 hown hK hPD.1 0 rfl rfl 3 (by decide) (hts _ gw_10) (fun _ h9 => h9) rfl dX7_look_16 ?_
    refine kNI (As := [.ref (a0 0), .int (f0 3)]) (rest := []) C0 (kt_X9_at l G (a0 0) 260 (A0 0) (f0 3) (by decide)) gi_U_X9_at (host := "IdleCrimes") (index := 35) (List.mem_of_getElem? (i := 11) rfl) gw_6 gw_7 (n := 2) rfl (by decide +kernel) ⟨rfl, rfl, Nat.le_of_ble_eq_true rfl, Nat.le_of_ble_eq_true rfl⟩ hPD hS [1] [0] [0, 1] (wN := (wX7 G h0 a0 f0 A0)) rfl rfl rfl rfl rfl hl.1 (Nat.le_of_ble_eq_true rfl) dX7_look_19 (fun H locs hPD hS => ?_)
    refine lv_goto (tgt := 26) hx hb dX7_look_22 (by decide) ?_
    subst h
    exact eI C0 hPD.1 hPD.2 hS rfl dX7_look_26
abbrev rmX7_reader : Room := { frames := 0, cells := 0, slots := 0, locals := 0 }
set_option maxRecDepth 100000 in
set_option maxHeartbeats 4000000 in
theorem kt_X7_reader (l : Launch) (G : Gp) (h0 : Nat) (a0 : Nat → Nat) (f0 : Nat → Int32) (A0 : Nat → Nat → Int32) : CtrI l yX7_reader cX7_reader 1 (some .int) rmX7_reader G [.ref h0] (wX7 G h0 a0 f0 A0) (f7_reader f0 A0) (wX7 G h0 a0 f0 A0) := by
  obtain ⟨res, h⟩ : ∃ res, f7_reader f0 A0 = res := ⟨_, rfl⟩
  rw [h]
  refine ctrI_of (cc := cX7_reader) (maxL := 1) (ret := (some .int)) (by decide +kernel) rfl (Nat.le_of_ble_eq_true rfl) (fun p e s m below meth c DA C0 hP hD ls hl => ?_)
  have hPD : WD G DA (wX7 G h0 a0 f0 A0) s.heap := ⟨hP, hD⟩
  have hS : va_S DA s.heap s.heap [] := va_S.rf
  have hl : lv_has ls 1 [(0, .ref h0)] := hl
  obtain ⟨hx, hb, hml, hown, hts⟩ := C0.1
  have hK := C0.2.2.2.1
  unfold f7_reader at h
  refine lv_aload_n hx hb dX7_reader_0 rfl (lv_at hl 0 rfl) ?_
  refine va_get (D := G.1) (ci := 7) (v := .int (f0 3)) (C := RX7) (T := TX7) (N := 6) hx hb hts inlX7 hown hK hPD.1 0 rfl rfl 3 (by decide) (hts _ gw_10) (fun _ h9 => h9) rfl dX7_reader_1 ?_
  subst h
  exact eI C0 hPD.1 hPD.2 hS rfl dX7_reader_4
abbrev rmX9_within : Room := { frames := 0, cells := 0, slots := 0, locals := 0 }
set_option maxRecDepth 100000 in
set_option maxHeartbeats 4000000 in
theorem kt_X9_within (l : Launch) (G : Gp) (p0 : Int32) (p1 : Int32) (p2 : Int32) : CtrI l yX9_within cX9_within 3 (some .boolean) rmX9_within G [.int p0, .int p1, .int p2] ([] : va_W) (f9_within p0 p1 p2) ([] : va_W) := by
  obtain ⟨res, h⟩ : ∃ res, f9_within p0 p1 p2 = res := ⟨_, rfl⟩
  rw [h]
  refine ctrI_of (cc := cX9_within) (maxL := 3) (ret := (some .boolean)) (by decide +kernel) rfl (Nat.le_of_ble_eq_true rfl) (fun p e s m below meth c DA C0 hP hD ls hl => ?_)
  have hPD : WD G DA ([] : va_W) s.heap := ⟨hP, hD⟩
  have hS : va_S DA s.heap s.heap [] := va_S.rf
  have hl : lv_has ls 3 [(0, .int p0), (1, .int p1), (2, .int p2)] := hl
  obtain ⟨hx, hb, hml, hown, hts⟩ := C0.1
  have hK := C0.2.2.2.1
  unfold f9_within at h
  refine lv_iload_n hx hb dX9_within_0 rfl (lv_at hl 0 rfl) ?_
  refine lv_iload_n hx hb dX9_within_1 rfl (lv_at hl 1 rfl) ?_
  refine lv_icmp_lt (tgt := 14) hx hb dX9_within_2 (by decide) (fun cc1 => ?_) (fun cc1 => ?_)
  · have h := (if_pos cc1).symm.trans h
    refine lv_iconst (v := 0) hx hb dX9_within_14 (by decide) ?_
    subst h
    exact eZ C0 hPD.1 hPD.2 hS rfl rfl dX9_within_15
  · have h := (if_neg cc1).symm.trans h
    refine lv_iload_n hx hb dX9_within_5 rfl (lv_at hl 0 rfl) ?_
    refine lv_iload_n hx hb dX9_within_6 rfl (lv_at hl 2 rfl) ?_
    refine lv_icmp_gt (tgt := 14) hx hb dX9_within_7 (by decide) (fun cc1 => ?_) (fun cc1 => ?_)
    · have h := (if_pos cc1).symm.trans h
      refine lv_iconst (v := 0) hx hb dX9_within_14 (by decide) ?_
      subst h
      exact eZ C0 hPD.1 hPD.2 hS rfl rfl dX9_within_15
    · have h := (if_neg cc1).symm.trans h
      refine lv_iconst (v := 1) hx hb dX9_within_10 (by decide) ?_
      refine lv_goto (tgt := 15) hx hb dX9_within_11 (by decide) ?_
      subst h
      exact eZ C0 hPD.1 hPD.2 hS rfl rfl dX9_within_15
abbrev rmX7_step : Room := { frames := 0, cells := 0, slots := 0, locals := 0 }
set_option maxRecDepth 100000 in
set_option maxHeartbeats 4000000 in
theorem kt_X7_step (l : Launch) (G : Gp) (h0 : Nat) (a0 : Nat → Nat) (f0 : Nat → Int32) (A0 : Nat → Nat → Int32) : CtrV l yX7_step cX7_step 1 none rmX7_step G [.ref h0] (wX7 G h0 a0 f0 A0) (wX7 G h0 a0 (f7_step f0 A0) A0) := by
  obtain ⟨res, h⟩ : ∃ res, f7_step f0 A0 = res := ⟨_, rfl⟩
  rw [h]
  refine ctrV_of (cc := cX7_step) (maxL := 1) (ret := none) (by decide +kernel) rfl (Nat.le_of_ble_eq_true rfl) (fun p e s m below meth c DA C0 hP hD ls hl => ?_)
  have hPD : WD G DA (wX7 G h0 a0 f0 A0) s.heap := ⟨hP, hD⟩
  have hS : va_S DA s.heap s.heap [] := va_S.rf
  have hl : lv_has ls 1 [(0, .ref h0)] := hl
  obtain ⟨hx, hb, hml, hown, hts⟩ := C0.1
  have hK := C0.2.2.2.1
  unfold f7_step at h
  refine lv_aload_n hx hb dX7_step_0 rfl (lv_at hl 0 rfl) ?_
  refine lv_dup hx hb dX7_step_1 rfl ?_
  refine va_get (D := G.1) (ci := 7) (v := .int (f0 3)) (C := RX7) (T := TX7) (N := 6) hx hb hts inlX7 hown hK hPD.1 0 rfl rfl 3 (by decide) (hts _ gw_10) (fun _ h9 => h9) rfl dX7_step_2 ?_
  refine lv_iconst (v := 1) hx hb dX7_step_5 (by decide) ?_
  refine lv_iadd hx hb dX7_step_6 ?_
  refine va_put (D := G.1) (ci := 7) (v := .int ((f0 3) + 1)) (ty := .int) (C := RX7) (T := TX7) (N := 6) hx hb hts inlX7 tyX7 tyX7_ok nmX7 hown hK hPD.1 hPD.2 hS 0 rfl rfl 3 (by decide) (hts _ gw_10) (fun _ h9 => h9) rfl (by decide +kernel) rfl rfl (Nat.le_of_ble_eq_true rfl) dX7_step_7 (fun H locs hP hD hS => ?_)
  obtain ⟨f0_1, ef0_1, h⟩ := lvl h
  have hPD : WD G DA (wX7 G h0 a0 f0_1 A0) H := by rw [ef0_1]; exact ⟨hP, hD⟩
  clear ef0_1 hP hD
  subst h
  exact eV C0 hPD.1 hPD.2 hS dX7_step_10
abbrev rmX7_failAt : Room := { frames := 0, cells := 0, slots := 0, locals := 0 }
set_option maxRecDepth 100000 in
set_option maxHeartbeats 4000000 in
theorem kt_X7_failAt (l : Launch) (G : Gp) (h0 : Nat) (a0 : Nat → Nat) (f0 : Nat → Int32) (A0 : Nat → Nat → Int32) (p1 : Int32) (p2 : Int32) : CtrV l yX7_failAt cX7_failAt 3 none rmX7_failAt G [.ref h0, .int p1, .int p2] (wX7 G h0 a0 f0 A0) (wX7 G h0 a0 (f7_failAt f0 A0 p1 p2) A0) := by
  obtain ⟨res, h⟩ : ∃ res, f7_failAt f0 A0 p1 p2 = res := ⟨_, rfl⟩
  rw [h]
  refine ctrV_of (cc := cX7_failAt) (maxL := 3) (ret := none) (by decide +kernel) rfl (Nat.le_of_ble_eq_true rfl) (fun p e s m below meth c DA C0 hP hD ls hl => ?_)
  have hPD : WD G DA (wX7 G h0 a0 f0 A0) s.heap := ⟨hP, hD⟩
  have hS : va_S DA s.heap s.heap [] := va_S.rf
  have hl : lv_has ls 3 [(0, .ref h0), (1, .int p1), (2, .int p2)] := hl
  obtain ⟨hx, hb, hml, hown, hts⟩ := C0.1
  have hK := C0.2.2.2.1
  unfold f7_failAt at h
  refine lv_aload_n hx hb dX7_failAt_0 rfl (lv_at hl 0 rfl) ?_
  refine va_get (D := G.1) (ci := 7) (v := .int (f0 4)) (C := RX7) (T := TX7) (N := 6) hx hb hts inlX7 hown hK hPD.1 0 rfl rfl 4 (by decide) (hts _ gw_9) (fun _ h9 => h9) rfl dX7_failAt_1 ?_
  refine lv_if_ne (tgt := 17) hx hb dX7_failAt_4 (by decide) (fun cc1 => ?_) (fun cc1 => ?_)
  · have h := (if_neg cc1).symm.trans h
    subst h
    exact eV C0 hPD.1 hPD.2 hS dX7_failAt_17
  · have h := (if_pos cc1).symm.trans h
    refine lv_aload_n hx hb dX7_failAt_7 rfl (lv_at hl 0 rfl) ?_
    refine lv_iload_n hx hb dX7_failAt_8 rfl (lv_at hl 1 rfl) ?_
    refine va_put (D := G.1) (ci := 7) (v := .int p1) (ty := .int) (C := RX7) (T := TX7) (N := 6) hx hb hts inlX7 tyX7 tyX7_ok nmX7 hown hK hPD.1 hPD.2 hS 0 rfl rfl 4 (by decide) (hts _ gw_9) (fun _ h9 => h9) rfl (by decide +kernel) rfl rfl (Nat.le_of_ble_eq_true rfl) dX7_failAt_9 (fun H locs hP hD hS => ?_)
    obtain ⟨f0_1, ef0_1, h⟩ := lvl h
    have hPD : WD G DA (wX7 G h0 a0 f0_1 A0) H := by rw [ef0_1]; exact ⟨hP, hD⟩
    clear ef0_1 hP hD
    refine lv_aload_n hx hb dX7_failAt_12 rfl (lv_at hl 0 rfl) ?_
    refine lv_iload_n hx hb dX7_failAt_13 rfl (lv_at hl 2 rfl) ?_
    refine va_put (D := G.1) (ci := 7) (v := .int p2) (ty := .int) (C := RX7) (T := TX7) (N := 6) hx hb hts inlX7 tyX7 tyX7_ok nmX7 hown hK hPD.1 hPD.2 hS 0 rfl rfl 5 (by decide) (hts _ gw_13) (fun _ h9 => h9) rfl (by decide +kernel) rfl rfl (Nat.le_of_ble_eq_true rfl) dX7_failAt_14 (fun H locs hP hD hS => ?_)
    obtain ⟨f0_2, ef0_2, h⟩ := lvl h
    have hPD : WD G DA (wX7 G h0 a0 f0_2 A0) H := by rw [ef0_2]; exact ⟨hP, hD⟩
    clear ef0_2 hP hD
    subst h
    exact eV C0 hPD.1 hPD.2 hS dX7_failAt_17
abbrev rmX9_put : Room := { frames := 0, cells := 0, slots := 0, locals := 0 }
set_option maxRecDepth 100000 in
set_option maxHeartbeats 4000000 in
theorem kt_X9_put (l : Launch) (G : Gp) (q0 : Nat) (n0 : Nat) (xs0 : Nat → Int32) (p1 p2 : Int32) (hn0 : n0 < 2147483648) : CtrV l yX9_put cX9_put 3 none rmX9_put G [.ref q0, .int p1, .int p2] (wI G q0 n0 xs0) (wI G q0 n0 (f9_put n0 xs0 p1 p2)) := by
  refine ctrV_of (cc := cX9_put) (maxL := 3) (ret := none) (by decide) rfl (Nat.le_of_ble_eq_true rfl) (fun p e s m below meth c DA C0 hP hD ls hl => ?_)
  have hPD : WD G DA (wI G q0 n0 xs0) s.heap := ⟨hP, hD⟩
  have hS : va_S DA s.heap s.heap [] := va_S.rf
  have hl : lv_has ls 3 [(0, .ref q0), (1, .int p1), (2, .int p2)] := hl
  obtain ⟨hx, hb, hml, hown, hts⟩ := C0.1
  have hK := C0.2.2.2.1
  obtain ⟨xs1, exs⟩ : ∃ y, y = f9_put n0 xs0 p1 p2 := ⟨_, rfl⟩
  rw [← exs]
  unfold f9_put at exs
  refine lv_iload_n hx hb dX9_put_0 rfl (lv_at hl 1 rfl) ?_
  refine lv_if_lt (tgt := 14) hx hb dX9_put_1 (by decide) (fun cc1 => ?_) (fun cc1 => ?_)
  · rw [if_pos (Or.inl cc1)] at exs
    subst exs
    exact eV C0 hPD.1 hPD.2 hS dX9_put_14
  · refine lv_iload_n hx hb dX9_put_4 rfl (lv_at hl 1 rfl) ?_
    refine lv_aload_n hx hb dX9_put_5 rfl (lv_at hl 0 rfl) ?_
    refine va_alen (v := nI n0) hx hb hK hPD.1 0 1 rfl rfl rfl dX9_put_6 ?_
    refine lv_icmp_ge (tgt := 14) hx hb dX9_put_7 (by decide) (fun cc2 => ?_) (fun cc2 => ?_)
    · rw [if_pos (Or.inr ((idx_cond hn0 cc1).mp cc2))] at exs
      subst exs
      exact eV C0 hPD.1 hPD.2 hS dX9_put_14
    · have hi : ¬ (p1 < 0 ∨ n0 ≤ p1.toNatClampNeg) := fun h => h.elim cc1 (fun h => cc2 ((idx_cond hn0 cc1).mpr h))
      rw [if_neg hi] at exs
      subst exs
      refine lv_aload_n hx hb dX9_put_10 rfl (lv_at hl 0 rfl) ?_
      refine lv_iload_n hx hb dX9_put_11 rfl (lv_at hl 1 rfl) ?_
      refine lv_iload_n hx hb dX9_put_12 rfl (lv_at hl 2 rfl) ?_
      refine va_iast hx hb hK hPD.1 hPD.2 hS 0 1 rfl rfl hi dX9_put_13 (fun H locs hP hD hS => ?_)
      exact eV C0 hP hD hS dX9_put_14
abbrev rmX0_repeat : Room := { frames := 1, cells := 0, slots := 0, locals := 22 }
set_option maxRecDepth 100000 in
set_option maxHeartbeats 4000000 in
theorem ww_f0_repeat_b42  (C0 : Cx cX0_repeat 7 none RX0 p s m args meth c G DA) {h0 : Nat} {a0 : Nat → Nat} {h1 : Nat} {a1 : Nat → Nat} {A1 : Nat → Nat → Int32} {p2 : Int32} {p3 : Int32} {p4 : Int32}  {k42 : (Nat → Nat → Int32) → (Nat → Int32) → (Nat → Int32) → Int32 → Int32 → Option ((Nat → Nat → Int32) × (Nat → Int32) × (Nat → Int32))} {res : (Nat → Nat → Int32) × (Nat → Int32) × (Nat → Int32)}  (hk42 : ∀ (A0 : Nat → Nat → Int32) (f0 : Nat → Int32) (f1 : Nat → Int32) (l5 : Int32) (l6 : Int32), k42 A0 f0 f1 l5 l6 = some res → ∀ (H : Heap) (locs : List Loc) (ls : Array Slot), WD G DA (wX0 G h0 a0 f0 A0 ++ (wX7 G h1 a1 f1 A1)) H → va_S DA s.heap H locs → lv_has ls 7 [(0, .ref h0), (1, .ref h1), (2, .int p2), (3, .int p3), (4, .int p4), (5, .int l5), (6, .int l6)] → W p l e rmX0_repeat s m args below meth c H locs 0 0 (MQ below (QV G DA (wX0 G h0 a0 res.2.1 res.1 ++ (wX7 G h1 a1 res.2.2 A1))) args s 0 0 DA) (F0 m 42 ls [])) : ∀ (A0 : Nat → Nat → Int32) (f0 : Nat → Int32) (f1 : Nat → Int32) (l5 : Int32) (l6 : Int32), f0_repeat_b42 A1 p2 p3 p4  k42 A0 f0 f1 l5 l6 = some res → ∀ (H : Heap) (locs : List Loc) (ls : Array Slot), WD G DA (wX0 G h0 a0 f0 A0 ++ (wX7 G h1 a1 f1 A1)) H → va_S DA s.heap H locs → lv_has ls 7 [(0, .ref h0), (1, .ref h1), (2, .int p2), (3, .int p3), (4, .int p4), (5, .int l5), (6, .int l6)] → W p l e rmX0_repeat s m args below meth c H locs 0 0 (MQ below (QV G DA (wX0 G h0 a0 res.2.1 res.1 ++ (wX7 G h1 a1 res.2.2 A1))) args s 0 0 DA) (F0 m 42 ls []) := by
  obtain ⟨hx, hb, hml, hown, hts⟩ := C0.1
  have hK := C0.2.2.2.1
  intro A0 f0 f1 l5 l6 h _ _ _ hPD hS hl
  unfold f0_repeat_b42 at h
  refine lv_iload hx hb dX0_repeat_42 (lv_at hl 6 rfl) ?_
  refine lv_iload hx hb dX0_repeat_44 (lv_at hl 5 rfl) ?_
  refine lv_iload_n hx hb dX0_repeat_46 rfl (lv_at hl 3 rfl) ?_
  refine lv_imul hx hb dX0_repeat_47 ?_
  refine lv_icmp_ge (tgt := 92) hx hb dX0_repeat_48 (by decide) (fun cc1 => ?_) (fun cc1 => ?_)
  · have h := (if_pos cc1).symm.trans h
    obtain rfl := Option.some.inj h
    exact eV C0 hPD.1 hPD.2 hS dX0_repeat_92
  · have h := (if_neg cc1).symm.trans h
    refine lv_aload_n hx hb dX0_repeat_51 rfl (lv_at hl 0 rfl) ?_
    refine va_get (D := G.1) (ci := 0) (v := .ref (a0 0)) (C := RX0) (T := TX0) (N := 2) hx hb hts inlX0 hown hK hPD.1 0 rfl rfl 0 (by decide) (hts _ gw_1) (fun _ h9 => h9) rfl dX0_repeat_52 ?_
    refine lv_aload_n hx hb dX0_repeat_55 rfl (lv_at hl 0 rfl) ?_
    refine va_get (D := G.1) (ci := 0) (v := .int (f0 1)) (C := RX0) (T := TX0) (N := 2) hx hb hts inlX0 hown hK hPD.1 0 rfl rfl 1 (by decide) (hts _ gw_0) (fun _ h9 => h9) rfl dX0_repeat_56 ?_
    refine lv_aload_n hx hb dX0_repeat_59 rfl (lv_at hl 0 rfl) ?_
    refine va_get (D := G.1) (ci := 0) (v := .ref (a0 0)) (C := RX0) (T := TX0) (N := 2) hx hb hts inlX0 hown hK hPD.1 0 rfl rfl 0 (by decide) (hts _ gw_1) (fun _ h9 => h9) rfl dX0_repeat_60 ?_
    refine lv_aload_n hx hb dX0_repeat_63 rfl (lv_at hl 0 rfl) ?_
    refine va_get (D := G.1) (ci := 0) (v := .int (f0 1)) (C := RX0) (T := TX0) (N := 2) hx hb hts inlX0 hown hK hPD.1 0 rfl rfl 1 (by decide) (hts _ gw_0) (fun _ h9 => h9) rfl dX0_repeat_64 ?_
    refine lv_iload hx hb dX0_repeat_67 (lv_at hl 5 rfl) ?_
    refine lv_isub hx hb dX0_repeat_69 ?_
    refine kNI (As := [.ref (a0 0), .int ((f0 1) - l5)]) (rest := [.int (f0 1), .ref (a0 0)]) C0 (kt_X9_at l G (a0 0) 48 (A0 0) ((f0 1) - l5) (by decide)) gi_U_X9_at (host := "IdleCrimes") (index := 25) (List.mem_of_getElem? (i := 15) rfl) gw_6 gw_7 (n := 2) rfl (by decide +kernel) ⟨rfl, rfl, Nat.le_of_ble_eq_true rfl, Nat.le_of_ble_eq_true rfl⟩ hPD hS [1] [0, 2, 3] [0, 3, 1, 2] (wN := (wX0 G h0 a0 f0 A0 ++ (wX7 G h1 a1 f1 A1))) rfl rfl rfl rfl rfl hl.1 (Nat.le_of_ble_eq_true rfl) dX0_repeat_70 (fun H locs hPD hS => ?_)
    obtain ⟨z_1, ez_1, h⟩ := lvl h
    have kc := kt_X9_put l G (a0 0) 48 (A0 0) (f0 1) (f9_at 48 (A0 0) ((f0 1) - l5)) (by decide)
    rw [← ez_1] at kc
    clear ez_1
    refine kNV (As := [.ref (a0 0), .int (f0 1), .int (f9_at 48 (A0 0) ((f0 1) - l5))]) (rest := []) C0 (kc) gi_U_X9_put (host := "IdleCrimes") (index := 75) (List.mem_of_getElem? (i := 16) rfl) gw_6 gw_19 (n := 3) rfl (by decide +kernel) ⟨rfl, rfl, Nat.le_of_ble_eq_true rfl, Nat.le_of_ble_eq_true rfl⟩ hPD hS [1] [0, 2, 3] [0, 3, 1, 2] (wN := (wX0 G h0 a0 f0 (updA A0 0 z_1) ++ (wX7 G h1 a1 f1 A1))) rfl rfl rfl rfl rfl hl.1 (Nat.le_of_ble_eq_true rfl) dX0_repeat_73 (fun H locs hPD hS => ?_)
    obtain ⟨A0_2, eA0_2, h⟩ := lvl h
    have hPD : WD G DA (wX0 G h0 a0 f0 A0_2 ++ (wX7 G h1 a1 f1 A1)) H := by rw [eA0_2]; exact hPD
    clear eA0_2
    refine lv_aload_n hx hb dX0_repeat_76 rfl (lv_at hl 0 rfl) ?_
    refine lv_dup hx hb dX0_repeat_77 rfl ?_
    refine va_get (D := G.1) (ci := 0) (v := .int (f0 1)) (C := RX0) (T := TX0) (N := 2) hx hb hts inlX0 hown hK hPD.1 0 rfl rfl 1 (by decide) (hts _ gw_0) (fun _ h9 => h9) rfl dX0_repeat_78 ?_
    refine lv_iconst (v := 1) hx hb dX0_repeat_81 (by decide) ?_
    refine lv_iadd hx hb dX0_repeat_82 ?_
    refine va_put (D := G.1) (ci := 0) (v := .int ((f0 1) + 1)) (ty := .int) (C := RX0) (T := TX0) (N := 2) hx hb hts inlX0 tyX0 tyX0_ok nmX0 hown hK hPD.1 hPD.2 hS 0 rfl rfl 1 (by decide) (hts _ gw_0) (fun _ h9 => h9) rfl (by decide +kernel) rfl rfl (Nat.le_of_ble_eq_true rfl) dX0_repeat_83 (fun H locs hP hD hS => ?_)
    obtain ⟨f0_3, ef0_3, h⟩ := lvl h
    have hPD : WD G DA (wX0 G h0 a0 f0_3 A0_2 ++ (wX7 G h1 a1 f1 A1)) H := by rw [ef0_3]; exact ⟨hP, hD⟩
    clear ef0_3 hP hD
    refine lv_iinc (v := l6 + 1) (lv' := [(6, .int (l6 + 1)), (0, .ref h0), (1, .ref h1), (2, .int p2), (3, .int p3), (4, .int p4), (5, .int l5)]) hx hb dX0_repeat_86 hl (k := 6) rfl rfl (by decide) rfl (fun ls hl => ?_)
    refine lv_goto (tgt := 42) hx hb dX0_repeat_89 (by decide) ?_
    exact hk42 A0_2 f0_3 f1 l5 (l6 + 1) h _ _ _ hPD hS (lv_sub hl [1, 2, 3, 4, 5, 6, 0] rfl)
set_option maxRecDepth 100000 in
set_option maxHeartbeats 4000000 in
theorem ww_f0_repeat_l42  (C0 : Cx cX0_repeat 7 none RX0 p s m args meth c G DA) {h0 : Nat} {a0 : Nat → Nat} {h1 : Nat} {a1 : Nat → Nat} {A1 : Nat → Nat → Int32} {p2 : Int32} {p3 : Int32} {p4 : Int32}   {res : (Nat → Nat → Int32) × (Nat → Int32) × (Nat → Int32)}  : ∀ (n : Nat) (A0 : Nat → Nat → Int32) (f0 : Nat → Int32) (f1 : Nat → Int32) (l5 : Int32) (l6 : Int32), f0_repeat_l42 A1 p2 p3 p4  n A0 f0 f1 l5 l6 = some res → ∀ (H : Heap) (locs : List Loc) (ls : Array Slot), WD G DA (wX0 G h0 a0 f0 A0 ++ (wX7 G h1 a1 f1 A1)) H → va_S DA s.heap H locs → lv_has ls 7 [(0, .ref h0), (1, .ref h1), (2, .int p2), (3, .int p3), (4, .int p4), (5, .int l5), (6, .int l6)] → W p l e rmX0_repeat s m args below meth c H locs 0 0 (MQ below (QV G DA (wX0 G h0 a0 res.2.1 res.1 ++ (wX7 G h1 a1 res.2.2 A1))) args s 0 0 DA) (F0 m 42 ls []) := by
  intro n
  induction n with
  | zero => intro A0 f0 f1 l5 l6 h; cases h
  | succ n ih => intro A0 f0 f1 l5 l6 h; exact ww_f0_repeat_b42 C0  ih A0 f0 f1 l5 l6 h
set_option maxRecDepth 100000 in
set_option maxHeartbeats 4000000 in
theorem kt_X0_repeat (l : Launch) (G : Gp) (h0 : Nat) (a0 : Nat → Nat) (h1 : Nat) (a1 : Nat → Nat) (f0 : Nat → Int32) (A0 : Nat → Nat → Int32) (f1 : Nat → Int32) (A1 : Nat → Nat → Int32) (p2 : Int32) (p3 : Int32) (p4 : Int32) : ∀ {r : (Nat → Nat → Int32) × (Nat → Int32) × (Nat → Int32)}, f0_repeat f0 A0 f1 A1 p2 p3 p4 = some r → CtrV l yX0_repeat cX0_repeat 7 none rmX0_repeat G [.ref h0, .ref h1, .int p2, .int p3, .int p4] (wX0 G h0 a0 f0 A0 ++ (wX7 G h1 a1 f1 A1)) (wX0 G h0 a0 r.2.1 r.1 ++ (wX7 G h1 a1 r.2.2 A1)) := by
  intro res h
  refine ctrV_of (cc := cX0_repeat) (maxL := 7) (ret := none) (by decide +kernel) rfl (Nat.le_of_ble_eq_true rfl) (fun p e s m below meth c DA C0 hP hD ls hl => ?_)
  have hPD : WD G DA (wX0 G h0 a0 f0 A0 ++ (wX7 G h1 a1 f1 A1)) s.heap := ⟨hP, hD⟩
  have hS : va_S DA s.heap s.heap [] := va_S.rf
  have hl : lv_has ls 7 [(0, .ref h0), (1, .ref h1), (2, .int p2), (3, .int p3), (4, .int p4)] := hl
  obtain ⟨hx, hb, hml, hown, hts⟩ := C0.1
  have hK := C0.2.2.2.1
  unfold f0_repeat at h
  refine lv_aload_n hx hb dX0_repeat_0 rfl (lv_at hl 0 rfl) ?_
  refine va_get (D := G.1) (ci := 0) (v := .int (f0 1)) (C := RX0) (T := TX0) (N := 2) hx hb hts inlX0 hown hK hPD.1 0 rfl rfl 1 (by decide) (hts _ gw_0) (fun _ h9 => h9) rfl dX0_repeat_1 ?_
  refine lv_iload_n hx hb dX0_repeat_4 rfl (lv_at hl 2 rfl) ?_
  refine lv_isub hx hb dX0_repeat_5 ?_
  refine lv_istore (lv' := [(5, .int ((f0 1) - p2)), (0, .ref h0), (1, .ref h1), (2, .int p2), (3, .int p3), (4, .int p4)]) hx hb dX0_repeat_6 hl (by decide) rfl (fun ls hl => ?_)
  refine lv_aload_n hx hb dX0_repeat_8 rfl (lv_at hl 2 rfl) ?_
  refine kVI (As := []) (rest := []) C0 (kt_X7_isFine l G h1 a1 f1 A1) gi_V_X0_33_X7_isFine (n := 0) rfl (by decide +kernel) rfl ⟨rfl, rfl, Nat.le_of_ble_eq_true rfl, Nat.le_of_ble_eq_true rfl⟩ hPD hS 2 7 rfl rfl rfl [2, 3] [0, 1] [0, 1, 2, 3] (wN := (wX0 G h0 a0 f0 A0 ++ (wX7 G h1 a1 f1 A1))) rfl rfl rfl rfl rfl hl.1 (Nat.le_of_ble_eq_true rfl) dX0_repeat_9 (fun H locs hPD hS => ?_)
  refine lv_if_ne (tgt := 16) hx hb dX0_repeat_12 (by decide) (fun cc1 => ?_) (fun cc1 => ?_)
  · have h := (if_neg cc1).symm.trans h
    refine lv_aload_n hx hb dX0_repeat_16 rfl (lv_at hl 1 rfl) ?_
    refine va_get (D := G.1) (ci := 0) (v := .int (f0 1)) (C := RX0) (T := TX0) (N := 2) hx hb hts inlX0 hown hK hPD.1 0 rfl rfl 1 (by decide) (hts _ gw_0) (fun _ h9 => h9) rfl dX0_repeat_17 ?_
    refine lv_iload hx hb dX0_repeat_20 (lv_at hl 0 rfl) ?_
    refine lv_iload_n hx hb dX0_repeat_22 rfl (lv_at hl 4 rfl) ?_
    refine lv_imul hx hb dX0_repeat_23 ?_
    refine lv_iadd hx hb dX0_repeat_24 ?_
    refine lv_bipush (v := 48) hx hb dX0_repeat_25 (by decide) ?_
    refine lv_icmp_le (tgt := 39) hx hb dX0_repeat_27 (by decide) (fun cc1 => ?_) (fun cc1 => ?_)
    · have h := (if_pos cc1).symm.trans h
      refine lv_iconst (v := 0) hx hb dX0_repeat_39 (by decide) ?_
      refine lv_istore (lv' := [(6, .int 0), (5, .int ((f0 1) - p2)), (0, .ref h0), (1, .ref h1), (2, .int p2), (3, .int p3), (4, .int p4)]) hx hb dX0_repeat_40 hl (by decide) rfl (fun ls hl => ?_)
      exact ww_f0_repeat_l42 C0 NF A0 f0 f1 ((f0 1) - p2) 0 h _ _ _ hPD hS (lv_sub hl [2, 3, 4, 5, 6, 1, 0] rfl)
    · have h := (if_neg cc1).symm.trans h
      refine lv_aload_n hx hb dX0_repeat_30 rfl (lv_at hl 2 rfl) ?_
      refine lv_bipush (v := 6) hx hb dX0_repeat_31 (by decide) ?_
      refine lv_iload hx hb dX0_repeat_33 (lv_at hl 5 rfl) ?_
      obtain ⟨z_4, ez_4, h⟩ := lvl h
      have kc := kt_X7_failAt l G h1 a1 f1 A1 6 p4
      rw [← ez_4] at kc
      clear ez_4
      refine kVV (As := [.int 6, .int p4]) (rest := []) C0 (kc) gi_V_X0_71_X7_failAt (n := 2) rfl (by decide +kernel) rfl ⟨rfl, rfl, Nat.le_of_ble_eq_true rfl, Nat.le_of_ble_eq_true rfl⟩ hPD hS 2 7 rfl rfl rfl [2, 3] [0, 1] [0, 1, 2, 3] (wN := (wX0 G h0 a0 f0 A0 ++ (wX7 G h1 a1 z_4 A1))) rfl rfl rfl rfl rfl hl.1 (Nat.le_of_ble_eq_true rfl) dX0_repeat_35 (fun H locs hPD hS => ?_)
      obtain rfl := Option.some.inj h
      exact eV C0 hPD.1 hPD.2 hS dX0_repeat_38
  · have h := (if_pos cc1).symm.trans h
    obtain rfl := Option.some.inj h
    exact eV C0 hPD.1 hPD.2 hS dX0_repeat_15
abbrev rmX7_placeOf : Room := { frames := 1, cells := 0, slots := 0, locals := 22 }
set_option maxRecDepth 100000 in
set_option maxHeartbeats 4000000 in
theorem kt_X7_placeOf (l : Launch) (G : Gp) (p0 : Int32) : CtrI l yX7_placeOf cX7_placeOf 1 (some .int) rmX7_placeOf G [.int p0] ([] : va_W) (f7_placeOf p0) ([] : va_W) := by
  obtain ⟨res, h⟩ : ∃ res, f7_placeOf p0 = res := ⟨_, rfl⟩
  rw [h]
  refine ctrI_of (cc := cX7_placeOf) (maxL := 1) (ret := (some .int)) (by decide +kernel) rfl (Nat.le_of_ble_eq_true rfl) (fun p e s m below meth c DA C0 hP hD ls hl => ?_)
  have hPD : WD G DA ([] : va_W) s.heap := ⟨hP, hD⟩
  have hS : va_S DA s.heap s.heap [] := va_S.rf
  have hl : lv_has ls 1 [(0, .int p0)] := hl
  obtain ⟨hx, hb, hml, hown, hts⟩ := C0.1
  have hK := C0.2.2.2.1
  unfold f7_placeOf at h
  refine lv_iload_n hx hb dX7_placeOf_0 rfl (lv_at hl 0 rfl) ?_
  refine lv_bipush (v := 97) hx hb dX7_placeOf_1 (by decide) ?_
  refine lv_bipush (v := 112) hx hb dX7_placeOf_3 (by decide) ?_
  refine kNI (As := [.int p0, .int 97, .int 112]) (rest := []) C0 (kt_X9_within l G  p0 97 112) gi_U_X9_within (host := "IdleCrimes") (index := 65) (List.mem_of_getElem? (i := 13) rfl) gw_6 gw_25 (n := 3) rfl (by decide +kernel) ⟨rfl, rfl, Nat.le_of_ble_eq_true rfl, Nat.le_of_ble_eq_true rfl⟩ hPD hS [] [] [] (wN := ([] : va_W)) rfl rfl rfl rfl rfl hl.1 (Nat.le_of_ble_eq_true rfl) dX7_placeOf_5 (fun H locs hPD hS => ?_)
  refine lv_if_eq (tgt := 18) hx hb dX7_placeOf_8 (by decide) (fun cc1 => ?_) (fun cc1 => ?_)
  · have h := (if_pos cc1).symm.trans h
    refine lv_iconst (v := (-1)) hx hb dX7_placeOf_18 (by decide) ?_
    subst h
    exact eI C0 hPD.1 hPD.2 hS rfl dX7_placeOf_19
  · have h := (if_neg cc1).symm.trans h
    refine lv_iload_n hx hb dX7_placeOf_11 rfl (lv_at hl 0 rfl) ?_
    refine lv_bipush (v := 97) hx hb dX7_placeOf_12 (by decide) ?_
    refine lv_isub hx hb dX7_placeOf_14 ?_
    refine lv_goto (tgt := 19) hx hb dX7_placeOf_15 (by decide) ?_
    subst h
    exact eI C0 hPD.1 hPD.2 hS rfl dX7_placeOf_19
abbrev rmX7_fail : Room := { frames := 1, cells := 0, slots := 0, locals := 22 }
set_option maxRecDepth 100000 in
set_option maxHeartbeats 4000000 in
theorem kt_X7_fail (l : Launch) (G : Gp) (h0 : Nat) (a0 : Nat → Nat) (f0 : Nat → Int32) (A0 : Nat → Nat → Int32) (p1 : Int32) : CtrV l yX7_fail cX7_fail 2 none rmX7_fail G [.ref h0, .int p1] (wX7 G h0 a0 f0 A0) (wX7 G h0 a0 (f7_fail f0 A0 p1) A0) := by
  obtain ⟨res, h⟩ : ∃ res, f7_fail f0 A0 p1 = res := ⟨_, rfl⟩
  rw [h]
  refine ctrV_of (cc := cX7_fail) (maxL := 2) (ret := none) (by decide +kernel) rfl (Nat.le_of_ble_eq_true rfl) (fun p e s m below meth c DA C0 hP hD ls hl => ?_)
  have hPD : WD G DA (wX7 G h0 a0 f0 A0) s.heap := ⟨hP, hD⟩
  have hS : va_S DA s.heap s.heap [] := va_S.rf
  have hl : lv_has ls 2 [(0, .ref h0), (1, .int p1)] := hl
  obtain ⟨hx, hb, hml, hown, hts⟩ := C0.1
  have hK := C0.2.2.2.1
  unfold f7_fail at h
  refine lv_aload_n hx hb dX7_fail_0 rfl (lv_at hl 0 rfl) ?_
  refine lv_iload_n hx hb dX7_fail_1 rfl (lv_at hl 1 rfl) ?_
  refine lv_aload_n hx hb dX7_fail_2 rfl (lv_at hl 0 rfl) ?_
  refine va_get (D := G.1) (ci := 7) (v := .int (f0 3)) (C := RX7) (T := TX7) (N := 6) hx hb hts inlX7 hown hK hPD.1 0 rfl rfl 3 (by decide) (hts _ gw_10) (fun _ h9 => h9) rfl dX7_fail_3 ?_
  obtain ⟨z_1, ez_1, h⟩ := lvl h
  have kc := kt_X7_failAt l G h0 a0 f0 A0 p1 (f0 3)
  rw [← ez_1] at kc
  clear ez_1
  refine kVV (As := [.int p1, .int (f0 3)]) (rest := []) C0 (kc) gi_V_X7_61_X7_failAt (n := 2) rfl (by decide +kernel) rfl ⟨rfl, rfl, Nat.le_of_ble_eq_true rfl, Nat.le_of_ble_eq_true rfl⟩ hPD hS 0 7 rfl rfl rfl [0, 1] [] [0, 1] (wN := (wX7 G h0 a0 z_1 A0)) rfl rfl rfl rfl rfl hl.1 (Nat.le_of_ble_eq_true rfl) dX7_fail_6 (fun H locs hPD hS => ?_)
  subst h
  exact eV C0 hPD.1 hPD.2 hS dX7_fail_9
abbrev rmX7_take : Room := { frames := 2, cells := 0, slots := 0, locals := 43 }
set_option maxRecDepth 100000 in
set_option maxHeartbeats 4000000 in
theorem kt_X7_take (l : Launch) (G : Gp) (h0 : Nat) (a0 : Nat → Nat) (f0 : Nat → Int32) (A0 : Nat → Nat → Int32) (p1 : Int32) : ∀ {r : Int32 × (Nat → Int32)}, f7_take f0 A0 p1 = some r → CtrI l yX7_take cX7_take 2 (some .boolean) rmX7_take G [.ref h0, .int p1] (wX7 G h0 a0 f0 A0) r.1 (wX7 G h0 a0 r.2 A0) := by
  intro res h
  refine ctrI_of (cc := cX7_take) (maxL := 2) (ret := (some .boolean)) (by decide +kernel) rfl (Nat.le_of_ble_eq_true rfl) (fun p e s m below meth c DA C0 hP hD ls hl => ?_)
  have hPD : WD G DA (wX7 G h0 a0 f0 A0) s.heap := ⟨hP, hD⟩
  have hS : va_S DA s.heap s.heap [] := va_S.rf
  have hl : lv_has ls 2 [(0, .ref h0), (1, .int p1)] := hl
  obtain ⟨hx, hb, hml, hown, hts⟩ := C0.1
  have hK := C0.2.2.2.1
  unfold f7_take at h
  refine lv_aload_n hx hb dX7_take_0 rfl (lv_at hl 0 rfl) ?_
  refine kVI (As := []) (rest := []) C0 (kt_X7_look l G h0 a0 f0 A0) gi_V_X7_39_X7_look (n := 0) rfl (by decide +kernel) rfl ⟨rfl, rfl, Nat.le_of_ble_eq_true rfl, Nat.le_of_ble_eq_true rfl⟩ hPD hS 0 7 rfl rfl rfl [0, 1] [] [0, 1] (wN := (wX7 G h0 a0 f0 A0)) rfl rfl rfl rfl rfl hl.1 (Nat.le_of_ble_eq_true rfl) dX7_take_1 (fun H locs hPD hS => ?_)
  refine lv_iload_n hx hb dX7_take_4 rfl (lv_at hl 1 rfl) ?_
  refine lv_icmp_eq (tgt := 15) hx hb dX7_take_5 (by decide) (fun cc1 => ?_) (fun cc1 => ?_)
  · have h := (if_pos cc1).symm.trans h
    refine lv_aload_n hx hb dX7_take_15 rfl (lv_at hl 0 rfl) ?_
    obtain ⟨z_1, ez_1, h⟩ := lvl h
    have kc := kt_X7_step l G h0 a0 f0 A0
    rw [← ez_1] at kc
    clear ez_1
    refine kVV (As := []) (rest := []) C0 (kc) gi_V_X7_47_X7_step (n := 0) rfl (by decide +kernel) rfl ⟨rfl, rfl, Nat.le_of_ble_eq_true rfl, Nat.le_of_ble_eq_true rfl⟩ hPD hS 0 7 rfl rfl rfl [0, 1] [] [0, 1] (wN := (wX7 G h0 a0 z_1 A0)) rfl rfl rfl rfl rfl hl.1 (Nat.le_of_ble_eq_true rfl) dX7_take_16 (fun H locs hPD hS => ?_)
    refine lv_iconst (v := 1) hx hb dX7_take_19 (by decide) ?_
    obtain rfl := Option.some.inj h
    exact eZ C0 hPD.1 hPD.2 hS rfl rfl dX7_take_20
  · have h := (if_neg cc1).symm.trans h
    refine lv_aload_n hx hb dX7_take_8 rfl (lv_at hl 0 rfl) ?_
    refine lv_iconst (v := 1) hx hb dX7_take_9 (by decide) ?_
    obtain ⟨z_2, ez_2, h⟩ := lvl h
    have kc := kt_X7_fail l G h0 a0 f0 A0 1
    rw [← ez_2] at kc
    clear ez_2
    refine kVV (As := [.int 1]) (rest := []) C0 (kc) gi_V_X7_43_X7_fail (n := 1) rfl (by decide +kernel) rfl ⟨rfl, rfl, Nat.le_of_ble_eq_true rfl, Nat.le_of_ble_eq_true rfl⟩ hPD hS 0 7 rfl rfl rfl [0, 1] [] [0, 1] (wN := (wX7 G h0 a0 z_2 A0)) rfl rfl rfl rfl rfl hl.1 (Nat.le_of_ble_eq_true rfl) dX7_take_10 (fun H locs hPD hS => ?_)
    refine lv_iconst (v := 0) hx hb dX7_take_13 (by decide) ?_
    obtain rfl := Option.some.inj h
    exact eZ C0 hPD.1 hPD.2 hS rfl rfl dX7_take_14
abbrev rmGX0_items (d : Nat) : Room := { frames := d + 3, cells := 0, slots := 0, locals := 26 * d + 64 }
set_option maxRecDepth 100000 in
set_option maxHeartbeats 4000000 in
theorem ww_f0_items_b5 {d : Nat} {rec : Nat → (Nat → Int32) → (Nat → Nat → Int32) → (Nat → Int32) → (Nat → Nat → Int32) → Int32 → Option ((Nat → Nat → Int32) × (Nat → Int32) × (Nat → Int32))} (hrec0 : ∀ (l : Launch) (G : Gp) (h0 : Nat) (a0 : Nat → Nat) (h1 : Nat) (a1 : Nat → Nat) (f0 : Nat → Int32) (A0 : Nat → Nat → Int32) (f1 : Nat → Int32) (A1 : Nat → Nat → Int32) (p2 : Int32), ∀ {r : (Nat → Nat → Int32) × (Nat → Int32) × (Nat → Int32)}, rec 0 f0 A0 f1 A1 p2 = some r → CtrV l yX0_items cX0_items 5 none (rmGX0_items d) G [.ref h0, .ref h1, .int p2] (wX0 G h0 a0 f0 A0 ++ (wX7 G h1 a1 f1 A1)) (wX0 G h0 a0 r.2.1 r.1 ++ (wX7 G h1 a1 r.2.2 A1))) (hrec1 : ∀ (l : Launch) (G : Gp) (h0 : Nat) (a0 : Nat → Nat) (h1 : Nat) (a1 : Nat → Nat) (f0 : Nat → Int32) (A0 : Nat → Nat → Int32) (f1 : Nat → Int32) (A1 : Nat → Nat → Int32) (p2 : Int32), ∀ {r : (Nat → Nat → Int32) × (Nat → Int32) × (Nat → Int32)}, rec 1 f0 A0 f1 A1 p2 = some r → CtrV l yX0_item cX0_item 7 none (rmGX0_items d) G [.ref h0, .ref h1, .int p2] (wX0 G h0 a0 f0 A0 ++ (wX7 G h1 a1 f1 A1)) (wX0 G h0 a0 r.2.1 r.1 ++ (wX7 G h1 a1 r.2.2 A1))) (hrec2 : ∀ (l : Launch) (G : Gp) (h0 : Nat) (a0 : Nat → Nat) (h1 : Nat) (a1 : Nat → Nat) (f0 : Nat → Int32) (A0 : Nat → Nat → Int32) (f1 : Nat → Int32) (A1 : Nat → Nat → Int32) (p2 : Int32), ∀ {r : (Nat → Nat → Int32) × (Nat → Int32) × (Nat → Int32)}, rec 2 f0 A0 f1 A1 p2 = some r → CtrV l yX0_group cX0_group 3 none (rmGX0_items d) G [.ref h0, .ref h1, .int p2] (wX0 G h0 a0 f0 A0 ++ (wX7 G h1 a1 f1 A1)) (wX0 G h0 a0 r.2.1 r.1 ++ (wX7 G h1 a1 r.2.2 A1))) (hdd : True)  (C0 : Cx cX0_items 5 none RX0 p s m args meth c G DA) {h0 : Nat} {a0 : Nat → Nat} {h1 : Nat} {a1 : Nat → Nat} {A1 : Nat → Nat → Int32} {p2 : Int32}  {k5 : (Nat → Nat → Int32) → (Nat → Int32) → (Nat → Int32) → Int32 → Int32 → Option ((Nat → Nat → Int32) × (Nat → Int32) × (Nat → Int32))} {res : (Nat → Nat → Int32) × (Nat → Int32) × (Nat → Int32)}  (hk5 : ∀ (A0 : Nat → Nat → Int32) (f0 : Nat → Int32) (f1 : Nat → Int32) (l3 : Int32) (l4 : Int32), k5 A0 f0 f1 l3 l4 = some res → ∀ (H : Heap) (locs : List Loc) (ls : Array Slot), WD G DA (wX0 G h0 a0 f0 A0 ++ (wX7 G h1 a1 f1 A1)) H → va_S DA s.heap H locs → lv_has ls 5 [(0, .ref h0), (1, .ref h1), (2, .int p2), (3, .int l3), (4, .int l4)] → W p l e (rmGX0_items (d + 1)) s m args below meth c H locs 0 0 (MQ below (QV G DA (wX0 G h0 a0 res.2.1 res.1 ++ (wX7 G h1 a1 res.2.2 A1))) args s 0 0 DA) (F0 m 5 ls [])) : ∀ (A0 : Nat → Nat → Int32) (f0 : Nat → Int32) (f1 : Nat → Int32) (l3 : Int32) (l4 : Int32), f0_items_b5 rec A1 p2  k5 A0 f0 f1 l3 l4 = some res → ∀ (H : Heap) (locs : List Loc) (ls : Array Slot), WD G DA (wX0 G h0 a0 f0 A0 ++ (wX7 G h1 a1 f1 A1)) H → va_S DA s.heap H locs → lv_has ls 5 [(0, .ref h0), (1, .ref h1), (2, .int p2), (3, .int l3), (4, .int l4)] → W p l e (rmGX0_items (d + 1)) s m args below meth c H locs 0 0 (MQ below (QV G DA (wX0 G h0 a0 res.2.1 res.1 ++ (wX7 G h1 a1 res.2.2 A1))) args s 0 0 DA) (F0 m 5 ls []) := by
  obtain ⟨hx, hb, hml, hown, hts⟩ := C0.1
  have hK := C0.2.2.2.1
  intro A0 f0 f1 l3 l4 h _ _ _ hPD hS hl
  unfold f0_items_b5 at h
  refine lv_iload_n hx hb dX0_items_5 rfl (lv_at hl 3 rfl) ?_
  refine lv_if_eq (tgt := 58) hx hb dX0_items_6 (by decide) (fun cc1 => ?_) (fun cc1 => ?_)
  · have h := (if_pos cc1).symm.trans h
    obtain rfl := Option.some.inj h
    exact eV C0 hPD.1 hPD.2 hS dX0_items_58
  · have h := (if_neg cc1).symm.trans h
    refine lv_iload hx hb dX0_items_9 (lv_at hl 4 rfl) ?_
    refine lv_bipush (v := 60) hx hb dX0_items_11 (by decide) ?_
    refine lv_icmp_ge (tgt := 58) hx hb dX0_items_13 (by decide) (fun cc1 => ?_) (fun cc1 => ?_)
    · have h := (if_pos cc1).symm.trans h
      obtain rfl := Option.some.inj h
      exact eV C0 hPD.1 hPD.2 hS dX0_items_58
    · have h := (if_neg cc1).symm.trans h
      refine lv_aload_n hx hb dX0_items_16 rfl (lv_at hl 0 rfl) ?_
      refine lv_aload_n hx hb dX0_items_17 rfl (lv_at hl 1 rfl) ?_
      refine lv_iload_n hx hb dX0_items_18 rfl (lv_at hl 2 rfl) ?_
      obtain ⟨q_1, hq_1, h⟩ := ob2 h
      refine kVV (As := [.ref h1, .int p2]) (rest := []) C0 (hrec1 l G h0 a0 h1 a1 f0 A0 f1 A1 p2 hq_1) gi_V_X0_47_X0_item (n := 2) rfl (by decide +kernel) rfl ⟨rfl, rfl, by simp only [rmGX0_items]; omega, by simp only [rmGX0_items]; omega⟩ hPD hS 0 0 rfl rfl rfl [0, 1, 2, 3] [] [0, 1, 2, 3] (wN := (wX0 G h0 a0 q_1.2.1 q_1.1 ++ (wX7 G h1 a1 q_1.2.2 A1))) rfl rfl rfl rfl rfl hl.1 (Nat.le_of_ble_eq_true rfl) dX0_items_19 (fun H locs hPD hS => ?_)
      refine lv_aload_n hx hb dX0_items_22 rfl (lv_at hl 1 rfl) ?_
      refine kVI (As := []) (rest := []) C0 (kt_X7_isFine l G h1 a1 q_1.2.2 A1) gi_V_X0_33_X7_isFine (n := 0) rfl (by decide +kernel) rfl ⟨rfl, rfl, by simp only [rmGX0_items, rmX7_isFine]; omega, by simp only [rmGX0_items, rmX7_isFine]; omega⟩ hPD hS 2 7 rfl rfl rfl [2, 3] [0, 1] [0, 1, 2, 3] (wN := (wX0 G h0 a0 q_1.2.1 q_1.1 ++ (wX7 G h1 a1 q_1.2.2 A1))) rfl rfl rfl rfl rfl hl.1 (Nat.le_of_ble_eq_true rfl) dX0_items_23 (fun H locs hPD hS => ?_)
      refine lv_if_eq (tgt := 50) hx hb dX0_items_26 (by decide) (fun cc1 => ?_) (fun cc1 => ?_)
      · have h := (if_pos cc1).symm.trans h
        refine lv_iconst (v := 0) hx hb dX0_items_50 (by decide) ?_
        refine lv_istore_n (lv' := [(3, .int 0), (0, .ref h0), (1, .ref h1), (2, .int p2), (4, .int l4)]) hx hb dX0_items_51 rfl hl (by decide) rfl (fun ls hl => ?_)
        refine lv_iinc (v := l4 + 1) (lv' := [(4, .int (l4 + 1)), (3, .int 0), (0, .ref h0), (1, .ref h1), (2, .int p2)]) hx hb dX0_items_52 hl (k := 4) rfl rfl (by decide) rfl (fun ls hl => ?_)
        refine lv_goto (tgt := 5) hx hb dX0_items_55 (by decide) ?_
        exact hk5 q_1.1 q_1.2.1 q_1.2.2 0 (l4 + 1) h _ _ _ hPD hS (lv_sub hl [2, 3, 4, 1, 0] rfl)
      · have h := (if_neg cc1).symm.trans h
        refine lv_aload_n hx hb dX0_items_29 rfl (lv_at hl 1 rfl) ?_
        refine kVI (As := []) (rest := []) C0 (kt_X7_look l G h1 a1 q_1.2.2 A1) gi_V_X0_39_X7_look (n := 0) rfl (by decide +kernel) rfl ⟨rfl, rfl, by simp only [rmGX0_items, rmX7_look]; omega, by simp only [rmGX0_items, rmX7_look]; omega⟩ hPD hS 2 7 rfl rfl rfl [2, 3] [0, 1] [0, 1, 2, 3] (wN := (wX0 G h0 a0 q_1.2.1 q_1.1 ++ (wX7 G h1 a1 q_1.2.2 A1))) rfl rfl rfl rfl rfl hl.1 (Nat.le_of_ble_eq_true rfl) dX0_items_30 (fun H locs hPD hS => ?_)
        refine lv_iconst (v := (-1)) hx hb dX0_items_33 (by decide) ?_
        refine lv_icmp_eq (tgt := 50) hx hb dX0_items_34 (by decide) (fun cc1 => ?_) (fun cc1 => ?_)
        · have h := (if_pos cc1).symm.trans h
          refine lv_iconst (v := 0) hx hb dX0_items_50 (by decide) ?_
          refine lv_istore_n (lv' := [(3, .int 0), (0, .ref h0), (1, .ref h1), (2, .int p2), (4, .int l4)]) hx hb dX0_items_51 rfl hl (by decide) rfl (fun ls hl => ?_)
          refine lv_iinc (v := l4 + 1) (lv' := [(4, .int (l4 + 1)), (3, .int 0), (0, .ref h0), (1, .ref h1), (2, .int p2)]) hx hb dX0_items_52 hl (k := 4) rfl rfl (by decide) rfl (fun ls hl => ?_)
          refine lv_goto (tgt := 5) hx hb dX0_items_55 (by decide) ?_
          exact hk5 q_1.1 q_1.2.1 q_1.2.2 0 (l4 + 1) h _ _ _ hPD hS (lv_sub hl [2, 3, 4, 1, 0] rfl)
        · have h := (if_neg cc1).symm.trans h
          refine lv_aload_n hx hb dX0_items_37 rfl (lv_at hl 1 rfl) ?_
          refine kVI (As := []) (rest := []) C0 (kt_X7_look l G h1 a1 q_1.2.2 A1) gi_V_X0_39_X7_look (n := 0) rfl (by decide +kernel) rfl ⟨rfl, rfl, by simp only [rmGX0_items, rmX7_look]; omega, by simp only [rmGX0_items, rmX7_look]; omega⟩ hPD hS 2 7 rfl rfl rfl [2, 3] [0, 1] [0, 1, 2, 3] (wN := (wX0 G h0 a0 q_1.2.1 q_1.1 ++ (wX7 G h1 a1 q_1.2.2 A1))) rfl rfl rfl rfl rfl hl.1 (Nat.le_of_ble_eq_true rfl) dX0_items_38 (fun H locs hPD hS => ?_)
          refine lv_bipush (v := 41) hx hb dX0_items_41 (by decide) ?_
          refine lv_icmp_eq (tgt := 50) hx hb dX0_items_43 (by decide) (fun cc1 => ?_) (fun cc1 => ?_)
          · have h := (if_pos cc1).symm.trans h
            refine lv_iconst (v := 0) hx hb dX0_items_50 (by decide) ?_
            refine lv_istore_n (lv' := [(3, .int 0), (0, .ref h0), (1, .ref h1), (2, .int p2), (4, .int l4)]) hx hb dX0_items_51 rfl hl (by decide) rfl (fun ls hl => ?_)
            refine lv_iinc (v := l4 + 1) (lv' := [(4, .int (l4 + 1)), (3, .int 0), (0, .ref h0), (1, .ref h1), (2, .int p2)]) hx hb dX0_items_52 hl (k := 4) rfl rfl (by decide) rfl (fun ls hl => ?_)
            refine lv_goto (tgt := 5) hx hb dX0_items_55 (by decide) ?_
            exact hk5 q_1.1 q_1.2.1 q_1.2.2 0 (l4 + 1) h _ _ _ hPD hS (lv_sub hl [2, 3, 4, 1, 0] rfl)
          · have h := (if_neg cc1).symm.trans h
            refine lv_iconst (v := 1) hx hb dX0_items_46 (by decide) ?_
            refine lv_goto (tgt := 51) hx hb dX0_items_47 (by decide) ?_
            refine lv_istore_n (lv' := [(3, .int 1), (0, .ref h0), (1, .ref h1), (2, .int p2), (4, .int l4)]) hx hb dX0_items_51 rfl hl (by decide) rfl (fun ls hl => ?_)
            refine lv_iinc (v := l4 + 1) (lv' := [(4, .int (l4 + 1)), (3, .int 1), (0, .ref h0), (1, .ref h1), (2, .int p2)]) hx hb dX0_items_52 hl (k := 4) rfl rfl (by decide) rfl (fun ls hl => ?_)
            refine lv_goto (tgt := 5) hx hb dX0_items_55 (by decide) ?_
            exact hk5 q_1.1 q_1.2.1 q_1.2.2 1 (l4 + 1) h _ _ _ hPD hS (lv_sub hl [2, 3, 4, 1, 0] rfl)
set_option maxRecDepth 100000 in
set_option maxHeartbeats 4000000 in
theorem ww_f0_items_l5 {d : Nat} {rec : Nat → (Nat → Int32) → (Nat → Nat → Int32) → (Nat → Int32) → (Nat → Nat → Int32) → Int32 → Option ((Nat → Nat → Int32) × (Nat → Int32) × (Nat → Int32))} (hrec0 : ∀ (l : Launch) (G : Gp) (h0 : Nat) (a0 : Nat → Nat) (h1 : Nat) (a1 : Nat → Nat) (f0 : Nat → Int32) (A0 : Nat → Nat → Int32) (f1 : Nat → Int32) (A1 : Nat → Nat → Int32) (p2 : Int32), ∀ {r : (Nat → Nat → Int32) × (Nat → Int32) × (Nat → Int32)}, rec 0 f0 A0 f1 A1 p2 = some r → CtrV l yX0_items cX0_items 5 none (rmGX0_items d) G [.ref h0, .ref h1, .int p2] (wX0 G h0 a0 f0 A0 ++ (wX7 G h1 a1 f1 A1)) (wX0 G h0 a0 r.2.1 r.1 ++ (wX7 G h1 a1 r.2.2 A1))) (hrec1 : ∀ (l : Launch) (G : Gp) (h0 : Nat) (a0 : Nat → Nat) (h1 : Nat) (a1 : Nat → Nat) (f0 : Nat → Int32) (A0 : Nat → Nat → Int32) (f1 : Nat → Int32) (A1 : Nat → Nat → Int32) (p2 : Int32), ∀ {r : (Nat → Nat → Int32) × (Nat → Int32) × (Nat → Int32)}, rec 1 f0 A0 f1 A1 p2 = some r → CtrV l yX0_item cX0_item 7 none (rmGX0_items d) G [.ref h0, .ref h1, .int p2] (wX0 G h0 a0 f0 A0 ++ (wX7 G h1 a1 f1 A1)) (wX0 G h0 a0 r.2.1 r.1 ++ (wX7 G h1 a1 r.2.2 A1))) (hrec2 : ∀ (l : Launch) (G : Gp) (h0 : Nat) (a0 : Nat → Nat) (h1 : Nat) (a1 : Nat → Nat) (f0 : Nat → Int32) (A0 : Nat → Nat → Int32) (f1 : Nat → Int32) (A1 : Nat → Nat → Int32) (p2 : Int32), ∀ {r : (Nat → Nat → Int32) × (Nat → Int32) × (Nat → Int32)}, rec 2 f0 A0 f1 A1 p2 = some r → CtrV l yX0_group cX0_group 3 none (rmGX0_items d) G [.ref h0, .ref h1, .int p2] (wX0 G h0 a0 f0 A0 ++ (wX7 G h1 a1 f1 A1)) (wX0 G h0 a0 r.2.1 r.1 ++ (wX7 G h1 a1 r.2.2 A1))) (hdd : True)  (C0 : Cx cX0_items 5 none RX0 p s m args meth c G DA) {h0 : Nat} {a0 : Nat → Nat} {h1 : Nat} {a1 : Nat → Nat} {A1 : Nat → Nat → Int32} {p2 : Int32}   {res : (Nat → Nat → Int32) × (Nat → Int32) × (Nat → Int32)}  : ∀ (n : Nat) (A0 : Nat → Nat → Int32) (f0 : Nat → Int32) (f1 : Nat → Int32) (l3 : Int32) (l4 : Int32), f0_items_l5 rec A1 p2  n A0 f0 f1 l3 l4 = some res → ∀ (H : Heap) (locs : List Loc) (ls : Array Slot), WD G DA (wX0 G h0 a0 f0 A0 ++ (wX7 G h1 a1 f1 A1)) H → va_S DA s.heap H locs → lv_has ls 5 [(0, .ref h0), (1, .ref h1), (2, .int p2), (3, .int l3), (4, .int l4)] → W p l e (rmGX0_items (d + 1)) s m args below meth c H locs 0 0 (MQ below (QV G DA (wX0 G h0 a0 res.2.1 res.1 ++ (wX7 G h1 a1 res.2.2 A1))) args s 0 0 DA) (F0 m 5 ls []) := by
  intro n
  induction n with
  | zero => intro A0 f0 f1 l3 l4 h; cases h
  | succ n ih => intro A0 f0 f1 l3 l4 h; exact ww_f0_items_b5 hrec0 hrec1 hrec2 hdd C0  ih A0 f0 f1 l3 l4 h
set_option maxRecDepth 100000 in
set_option maxHeartbeats 4000000 in
theorem ko_X0_items {d : Nat} {rec : Nat → (Nat → Int32) → (Nat → Nat → Int32) → (Nat → Int32) → (Nat → Nat → Int32) → Int32 → Option ((Nat → Nat → Int32) × (Nat → Int32) × (Nat → Int32))} (hrec0 : ∀ (l : Launch) (G : Gp) (h0 : Nat) (a0 : Nat → Nat) (h1 : Nat) (a1 : Nat → Nat) (f0 : Nat → Int32) (A0 : Nat → Nat → Int32) (f1 : Nat → Int32) (A1 : Nat → Nat → Int32) (p2 : Int32), ∀ {r : (Nat → Nat → Int32) × (Nat → Int32) × (Nat → Int32)}, rec 0 f0 A0 f1 A1 p2 = some r → CtrV l yX0_items cX0_items 5 none (rmGX0_items d) G [.ref h0, .ref h1, .int p2] (wX0 G h0 a0 f0 A0 ++ (wX7 G h1 a1 f1 A1)) (wX0 G h0 a0 r.2.1 r.1 ++ (wX7 G h1 a1 r.2.2 A1))) (hrec1 : ∀ (l : Launch) (G : Gp) (h0 : Nat) (a0 : Nat → Nat) (h1 : Nat) (a1 : Nat → Nat) (f0 : Nat → Int32) (A0 : Nat → Nat → Int32) (f1 : Nat → Int32) (A1 : Nat → Nat → Int32) (p2 : Int32), ∀ {r : (Nat → Nat → Int32) × (Nat → Int32) × (Nat → Int32)}, rec 1 f0 A0 f1 A1 p2 = some r → CtrV l yX0_item cX0_item 7 none (rmGX0_items d) G [.ref h0, .ref h1, .int p2] (wX0 G h0 a0 f0 A0 ++ (wX7 G h1 a1 f1 A1)) (wX0 G h0 a0 r.2.1 r.1 ++ (wX7 G h1 a1 r.2.2 A1))) (hrec2 : ∀ (l : Launch) (G : Gp) (h0 : Nat) (a0 : Nat → Nat) (h1 : Nat) (a1 : Nat → Nat) (f0 : Nat → Int32) (A0 : Nat → Nat → Int32) (f1 : Nat → Int32) (A1 : Nat → Nat → Int32) (p2 : Int32), ∀ {r : (Nat → Nat → Int32) × (Nat → Int32) × (Nat → Int32)}, rec 2 f0 A0 f1 A1 p2 = some r → CtrV l yX0_group cX0_group 3 none (rmGX0_items d) G [.ref h0, .ref h1, .int p2] (wX0 G h0 a0 f0 A0 ++ (wX7 G h1 a1 f1 A1)) (wX0 G h0 a0 r.2.1 r.1 ++ (wX7 G h1 a1 r.2.2 A1))) (hdd : True) (l : Launch) (G : Gp) (h0 : Nat) (a0 : Nat → Nat) (h1 : Nat) (a1 : Nat → Nat) (f0 : Nat → Int32) (A0 : Nat → Nat → Int32) (f1 : Nat → Int32) (A1 : Nat → Nat → Int32) (p2 : Int32) : ∀ {r : (Nat → Nat → Int32) × (Nat → Int32) × (Nat → Int32)}, f0_items rec f0 A0 f1 A1 p2 = some r → CtrV l yX0_items cX0_items 5 none (rmGX0_items (d + 1)) G [.ref h0, .ref h1, .int p2] (wX0 G h0 a0 f0 A0 ++ (wX7 G h1 a1 f1 A1)) (wX0 G h0 a0 r.2.1 r.1 ++ (wX7 G h1 a1 r.2.2 A1)) := by
  intro res h
  refine ctrV_of (cc := cX0_items) (maxL := 5) (ret := none) (by decide +kernel) rfl (Nat.le_of_ble_eq_true rfl) (fun p e s m below meth c DA C0 hP hD ls hl => ?_)
  have hPD : WD G DA (wX0 G h0 a0 f0 A0 ++ (wX7 G h1 a1 f1 A1)) s.heap := ⟨hP, hD⟩
  have hS : va_S DA s.heap s.heap [] := va_S.rf
  have hl : lv_has ls 5 [(0, .ref h0), (1, .ref h1), (2, .int p2)] := hl
  obtain ⟨hx, hb, hml, hown, hts⟩ := C0.1
  have hK := C0.2.2.2.1
  unfold f0_items at h
  refine lv_iconst (v := 1) hx hb dX0_items_0 (by decide) ?_
  refine lv_istore_n (lv' := [(3, .int 1), (0, .ref h0), (1, .ref h1), (2, .int p2)]) hx hb dX0_items_1 rfl hl (by decide) rfl (fun ls hl => ?_)
  refine lv_iconst (v := 0) hx hb dX0_items_2 (by decide) ?_
  refine lv_istore (lv' := [(4, .int 0), (3, .int 1), (0, .ref h0), (1, .ref h1), (2, .int p2)]) hx hb dX0_items_3 hl (by decide) rfl (fun ls hl => ?_)
  exact ww_f0_items_l5 hrec0 hrec1 hrec2 hdd C0 NF A0 f0 f1 1 0 h _ _ _ hPD hS (lv_sub hl [2, 3, 4, 1, 0] rfl)

set_option maxRecDepth 100000 in
set_option maxHeartbeats 4000000 in
theorem ww_f0_item_b132 {d : Nat} {rec : Nat → (Nat → Int32) → (Nat → Nat → Int32) → (Nat → Int32) → (Nat → Nat → Int32) → Int32 → Option ((Nat → Nat → Int32) × (Nat → Int32) × (Nat → Int32))} (hrec0 : ∀ (l : Launch) (G : Gp) (h0 : Nat) (a0 : Nat → Nat) (h1 : Nat) (a1 : Nat → Nat) (f0 : Nat → Int32) (A0 : Nat → Nat → Int32) (f1 : Nat → Int32) (A1 : Nat → Nat → Int32) (p2 : Int32), ∀ {r : (Nat → Nat → Int32) × (Nat → Int32) × (Nat → Int32)}, rec 0 f0 A0 f1 A1 p2 = some r → CtrV l yX0_items cX0_items 5 none (rmGX0_items d) G [.ref h0, .ref h1, .int p2] (wX0 G h0 a0 f0 A0 ++ (wX7 G h1 a1 f1 A1)) (wX0 G h0 a0 r.2.1 r.1 ++ (wX7 G h1 a1 r.2.2 A1))) (hrec1 : ∀ (l : Launch) (G : Gp) (h0 : Nat) (a0 : Nat → Nat) (h1 : Nat) (a1 : Nat → Nat) (f0 : Nat → Int32) (A0 : Nat → Nat → Int32) (f1 : Nat → Int32) (A1 : Nat → Nat → Int32) (p2 : Int32), ∀ {r : (Nat → Nat → Int32) × (Nat → Int32) × (Nat → Int32)}, rec 1 f0 A0 f1 A1 p2 = some r → CtrV l yX0_item cX0_item 7 none (rmGX0_items d) G [.ref h0, .ref h1, .int p2] (wX0 G h0 a0 f0 A0 ++ (wX7 G h1 a1 f1 A1)) (wX0 G h0 a0 r.2.1 r.1 ++ (wX7 G h1 a1 r.2.2 A1))) (hrec2 : ∀ (l : Launch) (G : Gp) (h0 : Nat) (a0 : Nat → Nat) (h1 : Nat) (a1 : Nat → Nat) (f0 : Nat → Int32) (A0 : Nat → Nat → Int32) (f1 : Nat → Int32) (A1 : Nat → Nat → Int32) (p2 : Int32), ∀ {r : (Nat → Nat → Int32) × (Nat → Int32) × (Nat → Int32)}, rec 2 f0 A0 f1 A1 p2 = some r → CtrV l yX0_group cX0_group 3 none (rmGX0_items d) G [.ref h0, .ref h1, .int p2] (wX0 G h0 a0 f0 A0 ++ (wX7 G h1 a1 f1 A1)) (wX0 G h0 a0 r.2.1 r.1 ++ (wX7 G h1 a1 r.2.2 A1))) (hdd : True)  (C0 : Cx cX0_item 7 none RX0 p s m args meth c G DA) {h0 : Nat} {a0 : Nat → Nat} {h1 : Nat} {a1 : Nat → Nat} {A1 : Nat → Nat → Int32} {p2 : Int32}   {res : (Nat → Nat → Int32) × (Nat → Int32) × (Nat → Int32)}  : ∀ (A0 : Nat → Nat → Int32) (f0 : Nat → Int32) (f1 : Nat → Int32) (l3 : Int32) (l4 : Int32) (l5 : Int32) (s0 : Int32) (s1 : Int32), f0_item_b132 rec A1 p2  A0 f0 f1 l3 l4 l5 s0 s1 = some res → ∀ (H : Heap) (locs : List Loc) (ls : Array Slot), WD G DA (wX0 G h0 a0 f0 A0 ++ (wX7 G h1 a1 f1 A1)) H → va_S DA s.heap H locs → lv_has ls 7 [(0, .ref h0), (1, .ref h1), (2, .int p2), (3, .int l3), (4, .int l4), (5, .int l5)] → W p l e (rmGX0_items (d + 1)) s m args below meth c H locs 0 0 (MQ below (QV G DA (wX0 G h0 a0 res.2.1 res.1 ++ (wX7 G h1 a1 res.2.2 A1))) args s 0 0 DA) (F0 m 132 ls [.int s0, .int s1, .ref (a0 0)]) := by
  obtain ⟨hx, hb, hml, hown, hts⟩ := C0.1
  have hK := C0.2.2.2.1
  intro A0 f0 f1 l3 l4 l5 s0 s1 h _ _ _ hPD hS hl
  unfold f0_item_b132 at h
  obtain ⟨z_1, ez_1, h⟩ := lvl h
  have kc := kt_X9_put l G (a0 0) 48 (A0 0) s1 s0 (by decide)
  rw [← ez_1] at kc
  clear ez_1
  refine kNV (As := [.ref (a0 0), .int s1, .int s0]) (rest := []) C0 (kc) gi_U_X9_put (host := "IdleCrimes") (index := 75) (List.mem_of_getElem? (i := 16) rfl) gw_6 gw_19 (n := 3) rfl (by decide +kernel) ⟨rfl, rfl, by simp only [rmGX0_items, rmX9_put]; omega, by simp only [rmGX0_items, rmX9_put]; omega⟩ hPD hS [1] [0, 2, 3] [0, 3, 1, 2] (wN := (wX0 G h0 a0 f0 (updA A0 0 z_1) ++ (wX7 G h1 a1 f1 A1))) rfl rfl rfl rfl rfl hl.1 (Nat.le_of_ble_eq_true rfl) dX0_item_132 (fun H locs hPD hS => ?_)
  obtain ⟨A0_2, eA0_2, h⟩ := lvl h
  have hPD : WD G DA (wX0 G h0 a0 f0 A0_2 ++ (wX7 G h1 a1 f1 A1)) H := by rw [eA0_2]; exact hPD
  clear eA0_2
  refine lv_aload_n hx hb dX0_item_135 rfl (lv_at hl 0 rfl) ?_
  refine lv_dup hx hb dX0_item_136 rfl ?_
  refine va_get (D := G.1) (ci := 0) (v := .int (f0 1)) (C := RX0) (T := TX0) (N := 2) hx hb hts inlX0 hown hK hPD.1 0 rfl rfl 1 (by decide) (hts _ gw_0) (fun _ h9 => h9) rfl dX0_item_137 ?_
  refine lv_iconst (v := 1) hx hb dX0_item_140 (by decide) ?_
  refine lv_iadd hx hb dX0_item_141 ?_
  refine va_put (D := G.1) (ci := 0) (v := .int ((f0 1) + 1)) (ty := .int) (C := RX0) (T := TX0) (N := 2) hx hb hts inlX0 tyX0 tyX0_ok nmX0 hown hK hPD.1 hPD.2 hS 0 rfl rfl 1 (by decide) (hts _ gw_0) (fun _ h9 => h9) rfl (by decide +kernel) rfl rfl (Nat.le_of_ble_eq_true rfl) dX0_item_142 (fun H locs hP hD hS => ?_)
  obtain ⟨f0_3, ef0_3, h⟩ := lvl h
  have hPD : WD G DA (wX0 G h0 a0 f0_3 A0_2 ++ (wX7 G h1 a1 f1 A1)) H := by rw [ef0_3]; exact ⟨hP, hD⟩
  clear ef0_3 hP hD
  refine lv_aload_n hx hb dX0_item_145 rfl (lv_at hl 1 rfl) ?_
  obtain ⟨z_4, ez_4, h⟩ := lvl h
  have kc := kt_X7_step l G h1 a1 f1 A1
  rw [← ez_4] at kc
  clear ez_4
  refine kVV (As := []) (rest := []) C0 (kc) gi_V_X0_57_X7_step (n := 0) rfl (by decide +kernel) rfl ⟨rfl, rfl, by simp only [rmGX0_items, rmX7_step]; omega, by simp only [rmGX0_items, rmX7_step]; omega⟩ hPD hS 2 7 rfl rfl rfl [2, 3] [0, 1] [0, 1, 2, 3] (wN := (wX0 G h0 a0 f0_3 A0_2 ++ (wX7 G h1 a1 z_4 A1))) rfl rfl rfl rfl rfl hl.1 (Nat.le_of_ble_eq_true rfl) dX0_item_146 (fun H locs hPD hS => ?_)
  refine lv_aload_n hx hb dX0_item_149 rfl (lv_at hl 0 rfl) ?_
  refine lv_aload_n hx hb dX0_item_150 rfl (lv_at hl 1 rfl) ?_
  refine lv_iload hx hb dX0_item_151 (lv_at hl 4 rfl) ?_
  refine lv_iload hx hb dX0_item_153 (lv_at hl 5 rfl) ?_
  refine lv_iconst (v := 1) hx hb dX0_item_155 (by decide) ?_
  refine lv_isub hx hb dX0_item_156 ?_
  refine lv_iload_n hx hb dX0_item_157 rfl (lv_at hl 3 rfl) ?_
  obtain ⟨q_5, hq_5, h⟩ := ob2 h
  refine kVV (As := [.ref h1, .int l4, .int (l5 - 1), .int l3]) (rest := []) C0 (kt_X0_repeat l G h0 a0 h1 a1 f0_3 A0_2 z_4 A1 l4 (l5 - 1) l3 hq_5) gi_V_X0_63_X0_repeat (n := 4) rfl (by decide +kernel) rfl ⟨rfl, rfl, by simp only [rmGX0_items, rmX0_repeat]; omega, by simp only [rmGX0_items, rmX0_repeat]; omega⟩ hPD hS 0 0 rfl rfl rfl [0, 1, 2, 3] [] [0, 1, 2, 3] (wN := (wX0 G h0 a0 q_5.2.1 q_5.1 ++ (wX7 G h1 a1 q_5.2.2 A1))) rfl rfl rfl rfl rfl hl.1 (Nat.le_of_ble_eq_true rfl) dX0_item_158 (fun H locs hPD hS => ?_)
  refine lv_goto (tgt := 169) hx hb dX0_item_161 (by decide) ?_
  obtain rfl := Option.some.inj h
  exact eV C0 hPD.1 hPD.2 hS dX0_item_169
set_option maxRecDepth 100000 in
set_option maxHeartbeats 4000000 in
theorem ww_f0_item_b91 {d : Nat} {rec : Nat → (Nat → Int32) → (Nat → Nat → Int32) → (Nat → Int32) → (Nat → Nat → Int32) → Int32 → Option ((Nat → Nat → Int32) × (Nat → Int32) × (Nat → Int32))} (hrec0 : ∀ (l : Launch) (G : Gp) (h0 : Nat) (a0 : Nat → Nat) (h1 : Nat) (a1 : Nat → Nat) (f0 : Nat → Int32) (A0 : Nat → Nat → Int32) (f1 : Nat → Int32) (A1 : Nat → Nat → Int32) (p2 : Int32), ∀ {r : (Nat → Nat → Int32) × (Nat → Int32) × (Nat → Int32)}, rec 0 f0 A0 f1 A1 p2 = some r → CtrV l yX0_items cX0_items 5 none (rmGX0_items d) G [.ref h0, .ref h1, .int p2] (wX0 G h0 a0 f0 A0 ++ (wX7 G h1 a1 f1 A1)) (wX0 G h0 a0 r.2.1 r.1 ++ (wX7 G h1 a1 r.2.2 A1))) (hrec1 : ∀ (l : Launch) (G : Gp) (h0 : Nat) (a0 : Nat → Nat) (h1 : Nat) (a1 : Nat → Nat) (f0 : Nat → Int32) (A0 : Nat → Nat → Int32) (f1 : Nat → Int32) (A1 : Nat → Nat → Int32) (p2 : Int32), ∀ {r : (Nat → Nat → Int32) × (Nat → Int32) × (Nat → Int32)}, rec 1 f0 A0 f1 A1 p2 = some r → CtrV l yX0_item cX0_item 7 none (rmGX0_items d) G [.ref h0, .ref h1, .int p2] (wX0 G h0 a0 f0 A0 ++ (wX7 G h1 a1 f1 A1)) (wX0 G h0 a0 r.2.1 r.1 ++ (wX7 G h1 a1 r.2.2 A1))) (hrec2 : ∀ (l : Launch) (G : Gp) (h0 : Nat) (a0 : Nat → Nat) (h1 : Nat) (a1 : Nat → Nat) (f0 : Nat → Int32) (A0 : Nat → Nat → Int32) (f1 : Nat → Int32) (A1 : Nat → Nat → Int32) (p2 : Int32), ∀ {r : (Nat → Nat → Int32) × (Nat → Int32) × (Nat → Int32)}, rec 2 f0 A0 f1 A1 p2 = some r → CtrV l yX0_group cX0_group 3 none (rmGX0_items d) G [.ref h0, .ref h1, .int p2] (wX0 G h0 a0 f0 A0 ++ (wX7 G h1 a1 f1 A1)) (wX0 G h0 a0 r.2.1 r.1 ++ (wX7 G h1 a1 r.2.2 A1))) (hdd : True)  (C0 : Cx cX0_item 7 none RX0 p s m args meth c G DA) {h0 : Nat} {a0 : Nat → Nat} {h1 : Nat} {a1 : Nat → Nat} {A1 : Nat → Nat → Int32} {p2 : Int32}   {res : (Nat → Nat → Int32) × (Nat → Int32) × (Nat → Int32)}  : ∀ (A0 : Nat → Nat → Int32) (f0 : Nat → Int32) (f1 : Nat → Int32) (l3 : Int32) (l4 : Int32) (l5 : Int32) (l6 : Int32), f0_item_b91 rec A1 p2  A0 f0 f1 l3 l4 l5 l6 = some res → ∀ (H : Heap) (locs : List Loc) (ls : Array Slot), WD G DA (wX0 G h0 a0 f0 A0 ++ (wX7 G h1 a1 f1 A1)) H → va_S DA s.heap H locs → lv_has ls 7 [(0, .ref h0), (1, .ref h1), (2, .int p2), (3, .int l3), (4, .int l4), (5, .int l5), (6, .int l6)] → W p l e (rmGX0_items (d + 1)) s m args below meth c H locs 0 0 (MQ below (QV G DA (wX0 G h0 a0 res.2.1 res.1 ++ (wX7 G h1 a1 res.2.2 A1))) args s 0 0 DA) (F0 m 91 ls []) := by
  obtain ⟨hx, hb, hml, hown, hts⟩ := C0.1
  have hK := C0.2.2.2.1
  intro A0 f0 f1 l3 l4 l5 l6 h _ _ _ hPD hS hl
  unfold f0_item_b91 at h
  refine lv_aload_n hx hb dX0_item_91 rfl (lv_at hl 0 rfl) ?_
  refine va_get (D := G.1) (ci := 0) (v := .int (f0 1)) (C := RX0) (T := TX0) (N := 2) hx hb hts inlX0 hown hK hPD.1 0 rfl rfl 1 (by decide) (hts _ gw_0) (fun _ h9 => h9) rfl dX0_item_92 ?_
  refine lv_bipush (v := 48) hx hb dX0_item_95 (by decide) ?_
  refine lv_icmp_lt (tgt := 108) hx hb dX0_item_97 (by decide) (fun cc1 => ?_) (fun cc1 => ?_)
  · have h := (if_pos cc1).symm.trans h
    refine lv_aload_n hx hb dX0_item_108 rfl (lv_at hl 0 rfl) ?_
    refine va_get (D := G.1) (ci := 0) (v := .ref (a0 0)) (C := RX0) (T := TX0) (N := 2) hx hb hts inlX0 hown hK hPD.1 0 rfl rfl 0 (by decide) (hts _ gw_1) (fun _ h9 => h9) rfl dX0_item_109 ?_
    refine lv_aload_n hx hb dX0_item_112 rfl (lv_at hl 0 rfl) ?_
    refine va_get (D := G.1) (ci := 0) (v := .int (f0 1)) (C := RX0) (T := TX0) (N := 2) hx hb hts inlX0 hown hK hPD.1 0 rfl rfl 1 (by decide) (hts _ gw_0) (fun _ h9 => h9) rfl dX0_item_113 ?_
    refine lv_iload hx hb dX0_item_116 (lv_at hl 6 rfl) ?_
    refine lv_bipush (v := 46) hx hb dX0_item_118 (by decide) ?_
    refine lv_icmp_ne (tgt := 127) hx hb dX0_item_120 (by decide) (fun cc1 => ?_) (fun cc1 => ?_)
    · have h := (if_neg cc1).symm.trans h
      refine lv_iload hx hb dX0_item_127 (lv_at hl 6 rfl) ?_
      refine kSI (As := [.int l6]) (rest := [.int (f0 1), .ref (a0 0)]) C0 (kt_X7_placeOf l G  l6) gi_S_X0_67_X7_placeOf (n := 1) rfl (by decide +kernel) ⟨rfl, rfl, by simp only [rmGX0_items, rmX7_placeOf]; omega, by simp only [rmGX0_items, rmX7_placeOf]; omega⟩ hPD hS [] [0, 1, 2, 3] [0, 1, 2, 3] (wN := (wX0 G h0 a0 f0 A0 ++ (wX7 G h1 a1 f1 A1))) rfl rfl rfl rfl rfl hl.1 (Nat.le_of_ble_eq_true rfl) dX0_item_129 (fun H locs hPD hS => ?_)
      exact ww_f0_item_b132 hrec0 hrec1 hrec2 hdd C0 A0 f0 f1 l3 l4 l5 (f7_placeOf l6) (f0 1) h _ _ _ hPD hS (lv_sub hl [0, 1, 2, 3, 4, 5] rfl)
    · have h := (if_pos cc1).symm.trans h
      refine lv_iconst (v := (-1)) hx hb dX0_item_123 (by decide) ?_
      refine lv_goto (tgt := 132) hx hb dX0_item_124 (by decide) ?_
      exact ww_f0_item_b132 hrec0 hrec1 hrec2 hdd C0 A0 f0 f1 l3 l4 l5 (-1) (f0 1) h _ _ _ hPD hS (lv_sub hl [0, 1, 2, 3, 4, 5] rfl)
  · have h := (if_neg cc1).symm.trans h
    refine lv_aload_n hx hb dX0_item_100 rfl (lv_at hl 1 rfl) ?_
    refine lv_bipush (v := 6) hx hb dX0_item_101 (by decide) ?_
    refine lv_iload_n hx hb dX0_item_103 rfl (lv_at hl 3 rfl) ?_
    obtain ⟨z_6, ez_6, h⟩ := lvl h
    have kc := kt_X7_failAt l G h1 a1 f1 A1 6 l3
    rw [← ez_6] at kc
    clear ez_6
    refine kVV (As := [.int 6, .int l3]) (rest := []) C0 (kc) gi_V_X0_71_X7_failAt (n := 2) rfl (by decide +kernel) rfl ⟨rfl, rfl, by simp only [rmGX0_items, rmX7_failAt]; omega, by simp only [rmGX0_items, rmX7_failAt]; omega⟩ hPD hS 2 7 rfl rfl rfl [2, 3] [0, 1] [0, 1, 2, 3] (wN := (wX0 G h0 a0 f0 A0 ++ (wX7 G h1 a1 z_6 A1))) rfl rfl rfl rfl rfl hl.1 (Nat.le_of_ble_eq_true rfl) dX0_item_104 (fun H locs hPD hS => ?_)
    obtain rfl := Option.some.inj h
    exact eV C0 hPD.1 hPD.2 hS dX0_item_107
set_option maxRecDepth 100000 in
set_option maxHeartbeats 4000000 in
theorem ww_f0_item_b41 {d : Nat} {rec : Nat → (Nat → Int32) → (Nat → Nat → Int32) → (Nat → Int32) → (Nat → Nat → Int32) → Int32 → Option ((Nat → Nat → Int32) × (Nat → Int32) × (Nat → Int32))} (hrec0 : ∀ (l : Launch) (G : Gp) (h0 : Nat) (a0 : Nat → Nat) (h1 : Nat) (a1 : Nat → Nat) (f0 : Nat → Int32) (A0 : Nat → Nat → Int32) (f1 : Nat → Int32) (A1 : Nat → Nat → Int32) (p2 : Int32), ∀ {r : (Nat → Nat → Int32) × (Nat → Int32) × (Nat → Int32)}, rec 0 f0 A0 f1 A1 p2 = some r → CtrV l yX0_items cX0_items 5 none (rmGX0_items d) G [.ref h0, .ref h1, .int p2] (wX0 G h0 a0 f0 A0 ++ (wX7 G h1 a1 f1 A1)) (wX0 G h0 a0 r.2.1 r.1 ++ (wX7 G h1 a1 r.2.2 A1))) (hrec1 : ∀ (l : Launch) (G : Gp) (h0 : Nat) (a0 : Nat → Nat) (h1 : Nat) (a1 : Nat → Nat) (f0 : Nat → Int32) (A0 : Nat → Nat → Int32) (f1 : Nat → Int32) (A1 : Nat → Nat → Int32) (p2 : Int32), ∀ {r : (Nat → Nat → Int32) × (Nat → Int32) × (Nat → Int32)}, rec 1 f0 A0 f1 A1 p2 = some r → CtrV l yX0_item cX0_item 7 none (rmGX0_items d) G [.ref h0, .ref h1, .int p2] (wX0 G h0 a0 f0 A0 ++ (wX7 G h1 a1 f1 A1)) (wX0 G h0 a0 r.2.1 r.1 ++ (wX7 G h1 a1 r.2.2 A1))) (hrec2 : ∀ (l : Launch) (G : Gp) (h0 : Nat) (a0 : Nat → Nat) (h1 : Nat) (a1 : Nat → Nat) (f0 : Nat → Int32) (A0 : Nat → Nat → Int32) (f1 : Nat → Int32) (A1 : Nat → Nat → Int32) (p2 : Int32), ∀ {r : (Nat → Nat → Int32) × (Nat → Int32) × (Nat → Int32)}, rec 2 f0 A0 f1 A1 p2 = some r → CtrV l yX0_group cX0_group 3 none (rmGX0_items d) G [.ref h0, .ref h1, .int p2] (wX0 G h0 a0 f0 A0 ++ (wX7 G h1 a1 f1 A1)) (wX0 G h0 a0 r.2.1 r.1 ++ (wX7 G h1 a1 r.2.2 A1))) (hdd : True)  (C0 : Cx cX0_item 7 none RX0 p s m args meth c G DA) {h0 : Nat} {a0 : Nat → Nat} {h1 : Nat} {a1 : Nat → Nat} {A1 : Nat → Nat → Int32} {p2 : Int32}   {res : (Nat → Nat → Int32) × (Nat → Int32) × (Nat → Int32)}  : ∀ (A0 : Nat → Nat → Int32) (f0 : Nat → Int32) (f1 : Nat → Int32) (l3 : Int32) (l4 : Int32) (l5 : Int32), f0_item_b41 rec A1 p2  A0 f0 f1 l3 l4 l5 = some res → ∀ (H : Heap) (locs : List Loc) (ls : Array Slot), WD G DA (wX0 G h0 a0 f0 A0 ++ (wX7 G h1 a1 f1 A1)) H → va_S DA s.heap H locs → lv_has ls 7 [(0, .ref h0), (1, .ref h1), (2, .int p2), (3, .int l3), (4, .int l4), (5, .int l5)] → W p l e (rmGX0_items (d + 1)) s m args below meth c H locs 0 0 (MQ below (QV G DA (wX0 G h0 a0 res.2.1 res.1 ++ (wX7 G h1 a1 res.2.2 A1))) args s 0 0 DA) (F0 m 41 ls []) := by
  obtain ⟨hx, hb, hml, hown, hts⟩ := C0.1
  have hK := C0.2.2.2.1
  intro A0 f0 f1 l3 l4 l5 h _ _ _ hPD hS hl
  unfold f0_item_b41 at h
  refine lv_aload_n hx hb dX0_item_41 rfl (lv_at hl 1 rfl) ?_
  refine kVI (As := []) (rest := []) C0 (kt_X7_look l G h1 a1 f1 A1) gi_V_X0_39_X7_look (n := 0) rfl (by decide +kernel) rfl ⟨rfl, rfl, by simp only [rmGX0_items, rmX7_look]; omega, by simp only [rmGX0_items, rmX7_look]; omega⟩ hPD hS 2 7 rfl rfl rfl [2, 3] [0, 1] [0, 1, 2, 3] (wN := (wX0 G h0 a0 f0 A0 ++ (wX7 G h1 a1 f1 A1))) rfl rfl rfl rfl rfl hl.1 (Nat.le_of_ble_eq_true rfl) dX0_item_42 (fun H locs hPD hS => ?_)
  refine lv_istore (lv' := [(6, .int (f7_look f1 A1)), (0, .ref h0), (1, .ref h1), (2, .int p2), (3, .int l3), (4, .int l4), (5, .int l5)]) hx hb dX0_item_45 hl (by decide) rfl (fun ls hl => ?_)
  refine lv_iload hx hb dX0_item_47 (lv_at hl 0 rfl) ?_
  refine lv_bipush (v := 40) hx hb dX0_item_49 (by decide) ?_
  refine lv_icmp_ne (tgt := 75) hx hb dX0_item_51 (by decide) (fun cc1 => ?_) (fun cc1 => ?_)
  · have h := (if_neg cc1).symm.trans h
    refine lv_iload hx hb dX0_item_75 (lv_at hl 0 rfl) ?_
    refine lv_bipush (v := 46) hx hb dX0_item_77 (by decide) ?_
    refine lv_icmp_eq (tgt := 91) hx hb dX0_item_79 (by decide) (fun cc1 => ?_) (fun cc1 => ?_)
    · have h := (if_pos cc1).symm.trans h
      exact ww_f0_item_b91 hrec0 hrec1 hrec2 hdd C0 A0 f0 f1 l3 l4 l5 (f7_look f1 A1) h _ _ _ hPD hS (lv_sub hl [1, 2, 3, 4, 5, 6, 0] rfl)
    · have h := (if_neg cc1).symm.trans h
      refine lv_iload hx hb dX0_item_82 (lv_at hl 0 rfl) ?_
      refine kSI (As := [.int (f7_look f1 A1)]) (rest := []) C0 (kt_X7_placeOf l G  (f7_look f1 A1)) gi_S_X0_67_X7_placeOf (n := 1) rfl (by decide +kernel) ⟨rfl, rfl, by simp only [rmGX0_items, rmX7_placeOf]; omega, by simp only [rmGX0_items, rmX7_placeOf]; omega⟩ hPD hS [] [0, 1, 2, 3] [0, 1, 2, 3] (wN := (wX0 G h0 a0 f0 A0 ++ (wX7 G h1 a1 f1 A1))) rfl rfl rfl rfl rfl hl.1 (Nat.le_of_ble_eq_true rfl) dX0_item_84 (fun H locs hPD hS => ?_)
      refine lv_iconst (v := (-1)) hx hb dX0_item_87 (by decide) ?_
      refine lv_icmp_eq (tgt := 164) hx hb dX0_item_88 (by decide) (fun cc1 => ?_) (fun cc1 => ?_)
      · have h := (if_pos cc1).symm.trans h
        refine lv_aload_n hx hb dX0_item_164 rfl (lv_at hl 2 rfl) ?_
        refine lv_iconst (v := 1) hx hb dX0_item_165 (by decide) ?_
        obtain ⟨z_7, ez_7, h⟩ := lvl h
        have kc := kt_X7_fail l G h1 a1 f1 A1 1
        rw [← ez_7] at kc
        clear ez_7
        refine kVV (As := [.int 1]) (rest := []) C0 (kc) gi_V_X0_43_X7_fail (n := 1) rfl (by decide +kernel) rfl ⟨rfl, rfl, by simp only [rmGX0_items, rmX7_fail]; omega, by simp only [rmGX0_items, rmX7_fail]; omega⟩ hPD hS 2 7 rfl rfl rfl [2, 3] [0, 1] [0, 1, 2, 3] (wN := (wX0 G h0 a0 f0 A0 ++ (wX7 G h1 a1 z_7 A1))) rfl rfl rfl rfl rfl hl.1 (Nat.le_of_ble_eq_true rfl) dX0_item_166 (fun H locs hPD hS => ?_)
        obtain rfl := Option.some.inj h
        exact eV C0 hPD.1 hPD.2 hS dX0_item_169
      · have h := (if_neg cc1).symm.trans h
        exact ww_f0_item_b91 hrec0 hrec1 hrec2 hdd C0 A0 f0 f1 l3 l4 l5 (f7_look f1 A1) h _ _ _ hPD hS (lv_sub hl [1, 2, 3, 4, 5, 6, 0] rfl)
  · have h := (if_pos cc1).symm.trans h
    refine lv_aload_n hx hb dX0_item_54 rfl (lv_at hl 1 rfl) ?_
    refine lv_aload_n hx hb dX0_item_55 rfl (lv_at hl 2 rfl) ?_
    refine lv_iload_n hx hb dX0_item_56 rfl (lv_at hl 3 rfl) ?_
    obtain ⟨q_8, hq_8, h⟩ := ob2 h
    refine kVV (As := [.ref h1, .int p2]) (rest := []) C0 (hrec2 l G h0 a0 h1 a1 f0 A0 f1 A1 p2 hq_8) gi_V_X0_60_X0_group (n := 2) rfl (by decide +kernel) rfl ⟨rfl, rfl, by simp only [rmGX0_items]; omega, by simp only [rmGX0_items]; omega⟩ hPD hS 0 0 rfl rfl rfl [0, 1, 2, 3] [] [0, 1, 2, 3] (wN := (wX0 G h0 a0 q_8.2.1 q_8.1 ++ (wX7 G h1 a1 q_8.2.2 A1))) rfl rfl rfl rfl rfl hl.1 (Nat.le_of_ble_eq_true rfl) dX0_item_57 (fun H locs hPD hS => ?_)
    refine lv_aload_n hx hb dX0_item_60 rfl (lv_at hl 1 rfl) ?_
    refine lv_aload_n hx hb dX0_item_61 rfl (lv_at hl 2 rfl) ?_
    refine lv_iload hx hb dX0_item_62 (lv_at hl 5 rfl) ?_
    refine lv_iload hx hb dX0_item_64 (lv_at hl 6 rfl) ?_
    refine lv_iconst (v := 1) hx hb dX0_item_66 (by decide) ?_
    refine lv_isub hx hb dX0_item_67 ?_
    refine lv_iload_n hx hb dX0_item_68 rfl (lv_at hl 4 rfl) ?_
    obtain ⟨q_9, hq_9, h⟩ := ob2 h
    refine kVV (As := [.ref h1, .int l4, .int (l5 - 1), .int l3]) (rest := []) C0 (kt_X0_repeat l G h0 a0 h1 a1 q_8.2.1 q_8.1 q_8.2.2 A1 l4 (l5 - 1) l3 hq_9) gi_V_X0_63_X0_repeat (n := 4) rfl (by decide +kernel) rfl ⟨rfl, rfl, by simp only [rmGX0_items, rmX0_repeat]; omega, by simp only [rmGX0_items, rmX0_repeat]; omega⟩ hPD hS 0 0 rfl rfl rfl [0, 1, 2, 3] [] [0, 1, 2, 3] (wN := (wX0 G h0 a0 q_9.2.1 q_9.1 ++ (wX7 G h1 a1 q_9.2.2 A1))) rfl rfl rfl rfl rfl hl.1 (Nat.le_of_ble_eq_true rfl) dX0_item_69 (fun H locs hPD hS => ?_)
    refine lv_goto (tgt := 169) hx hb dX0_item_72 (by decide) ?_
    obtain rfl := Option.some.inj h
    exact eV C0 hPD.1 hPD.2 hS dX0_item_169
set_option maxRecDepth 100000 in
set_option maxHeartbeats 4000000 in
theorem ko_X0_item {d : Nat} {rec : Nat → (Nat → Int32) → (Nat → Nat → Int32) → (Nat → Int32) → (Nat → Nat → Int32) → Int32 → Option ((Nat → Nat → Int32) × (Nat → Int32) × (Nat → Int32))} (hrec0 : ∀ (l : Launch) (G : Gp) (h0 : Nat) (a0 : Nat → Nat) (h1 : Nat) (a1 : Nat → Nat) (f0 : Nat → Int32) (A0 : Nat → Nat → Int32) (f1 : Nat → Int32) (A1 : Nat → Nat → Int32) (p2 : Int32), ∀ {r : (Nat → Nat → Int32) × (Nat → Int32) × (Nat → Int32)}, rec 0 f0 A0 f1 A1 p2 = some r → CtrV l yX0_items cX0_items 5 none (rmGX0_items d) G [.ref h0, .ref h1, .int p2] (wX0 G h0 a0 f0 A0 ++ (wX7 G h1 a1 f1 A1)) (wX0 G h0 a0 r.2.1 r.1 ++ (wX7 G h1 a1 r.2.2 A1))) (hrec1 : ∀ (l : Launch) (G : Gp) (h0 : Nat) (a0 : Nat → Nat) (h1 : Nat) (a1 : Nat → Nat) (f0 : Nat → Int32) (A0 : Nat → Nat → Int32) (f1 : Nat → Int32) (A1 : Nat → Nat → Int32) (p2 : Int32), ∀ {r : (Nat → Nat → Int32) × (Nat → Int32) × (Nat → Int32)}, rec 1 f0 A0 f1 A1 p2 = some r → CtrV l yX0_item cX0_item 7 none (rmGX0_items d) G [.ref h0, .ref h1, .int p2] (wX0 G h0 a0 f0 A0 ++ (wX7 G h1 a1 f1 A1)) (wX0 G h0 a0 r.2.1 r.1 ++ (wX7 G h1 a1 r.2.2 A1))) (hrec2 : ∀ (l : Launch) (G : Gp) (h0 : Nat) (a0 : Nat → Nat) (h1 : Nat) (a1 : Nat → Nat) (f0 : Nat → Int32) (A0 : Nat → Nat → Int32) (f1 : Nat → Int32) (A1 : Nat → Nat → Int32) (p2 : Int32), ∀ {r : (Nat → Nat → Int32) × (Nat → Int32) × (Nat → Int32)}, rec 2 f0 A0 f1 A1 p2 = some r → CtrV l yX0_group cX0_group 3 none (rmGX0_items d) G [.ref h0, .ref h1, .int p2] (wX0 G h0 a0 f0 A0 ++ (wX7 G h1 a1 f1 A1)) (wX0 G h0 a0 r.2.1 r.1 ++ (wX7 G h1 a1 r.2.2 A1))) (hdd : True) (l : Launch) (G : Gp) (h0 : Nat) (a0 : Nat → Nat) (h1 : Nat) (a1 : Nat → Nat) (f0 : Nat → Int32) (A0 : Nat → Nat → Int32) (f1 : Nat → Int32) (A1 : Nat → Nat → Int32) (p2 : Int32) : ∀ {r : (Nat → Nat → Int32) × (Nat → Int32) × (Nat → Int32)}, f0_item rec f0 A0 f1 A1 p2 = some r → CtrV l yX0_item cX0_item 7 none (rmGX0_items (d + 1)) G [.ref h0, .ref h1, .int p2] (wX0 G h0 a0 f0 A0 ++ (wX7 G h1 a1 f1 A1)) (wX0 G h0 a0 r.2.1 r.1 ++ (wX7 G h1 a1 r.2.2 A1)) := by
  intro res h
  refine ctrV_of (cc := cX0_item) (maxL := 7) (ret := none) (by decide +kernel) rfl (Nat.le_of_ble_eq_true rfl) (fun p e s m below meth c DA C0 hP hD ls hl => ?_)
  have hPD : WD G DA (wX0 G h0 a0 f0 A0 ++ (wX7 G h1 a1 f1 A1)) s.heap := ⟨hP, hD⟩
  have hS : va_S DA s.heap s.heap [] := va_S.rf
  have hl : lv_has ls 7 [(0, .ref h0), (1, .ref h1), (2, .int p2)] := hl
  obtain ⟨hx, hb, hml, hown, hts⟩ := C0.1
  have hK := C0.2.2.2.1
  unfold f0_item at h
  refine lv_aload_n hx hb dX0_item_0 rfl (lv_at hl 1 rfl) ?_
  refine kVI (As := []) (rest := []) C0 (kt_X7_reader l G h1 a1 f1 A1) gi_V_X0_50_X7_reader (n := 0) rfl (by decide +kernel) rfl ⟨rfl, rfl, by simp only [rmGX0_items, rmX7_reader]; omega, by simp only [rmGX0_items, rmX7_reader]; omega⟩ hPD hS 2 7 rfl rfl rfl [2, 3] [0, 1] [0, 1, 2, 3] (wN := (wX0 G h0 a0 f0 A0 ++ (wX7 G h1 a1 f1 A1))) rfl rfl rfl rfl rfl hl.1 (Nat.le_of_ble_eq_true rfl) dX0_item_1 (fun H locs hPD hS => ?_)
  refine lv_istore_n (lv' := [(3, .int (f7_reader f1 A1)), (0, .ref h0), (1, .ref h1), (2, .int p2)]) hx hb dX0_item_4 rfl hl (by decide) rfl (fun ls hl => ?_)
  refine lv_aload_n hx hb dX0_item_5 rfl (lv_at hl 1 rfl) ?_
  refine va_get (D := G.1) (ci := 0) (v := .int (f0 1)) (C := RX0) (T := TX0) (N := 2) hx hb hts inlX0 hown hK hPD.1 0 rfl rfl 1 (by decide) (hts _ gw_0) (fun _ h9 => h9) rfl dX0_item_6 ?_
  refine lv_istore (lv' := [(4, .int (f0 1)), (3, .int (f7_reader f1 A1)), (0, .ref h0), (1, .ref h1), (2, .int p2)]) hx hb dX0_item_9 hl (by decide) rfl (fun ls hl => ?_)
  refine lv_iconst (v := 1) hx hb dX0_item_11 (by decide) ?_
  refine lv_istore (lv' := [(5, .int 1), (4, .int (f0 1)), (3, .int (f7_reader f1 A1)), (0, .ref h0), (1, .ref h1), (2, .int p2)]) hx hb dX0_item_12 hl (by decide) rfl (fun ls hl => ?_)
  refine lv_aload_n hx hb dX0_item_14 rfl (lv_at hl 4 rfl) ?_
  refine kVI (As := []) (rest := []) C0 (kt_X7_look l G h1 a1 f1 A1) gi_V_X0_39_X7_look (n := 0) rfl (by decide +kernel) rfl ⟨rfl, rfl, by simp only [rmGX0_items, rmX7_look]; omega, by simp only [rmGX0_items, rmX7_look]; omega⟩ hPD hS 2 7 rfl rfl rfl [2, 3] [0, 1] [0, 1, 2, 3] (wN := (wX0 G h0 a0 f0 A0 ++ (wX7 G h1 a1 f1 A1))) rfl rfl rfl rfl rfl hl.1 (Nat.le_of_ble_eq_true rfl) dX0_item_15 (fun H locs hPD hS => ?_)
  refine lv_bipush (v := 50) hx hb dX0_item_18 (by decide) ?_
  refine lv_bipush (v := 57) hx hb dX0_item_20 (by decide) ?_
  refine kNI (As := [.int (f7_look f1 A1), .int 50, .int 57]) (rest := []) C0 (kt_X9_within l G  (f7_look f1 A1) 50 57) gi_U_X9_within (host := "IdleCrimes") (index := 53) (List.mem_of_getElem? (i := 14) rfl) gw_6 gw_25 (n := 3) rfl (by decide +kernel) ⟨rfl, rfl, by simp only [rmGX0_items, rmX9_within]; omega, by simp only [rmGX0_items, rmX9_within]; omega⟩ hPD hS [] [0, 1, 2, 3] [0, 1, 2, 3] (wN := (wX0 G h0 a0 f0 A0 ++ (wX7 G h1 a1 f1 A1))) rfl rfl rfl rfl rfl hl.1 (Nat.le_of_ble_eq_true rfl) dX0_item_22 (fun H locs hPD hS => ?_)
  refine lv_if_eq (tgt := 41) hx hb dX0_item_25 (by decide) (fun cc1 => ?_) (fun cc1 => ?_)
  · have h := (if_pos cc1).symm.trans h
    exact ww_f0_item_b41 hrec0 hrec1 hrec2 hdd C0 A0 f0 f1 (f7_reader f1 A1) (f0 1) 1 h _ _ _ hPD hS (lv_sub hl [3, 4, 5, 2, 1, 0] rfl)
  · have h := (if_neg cc1).symm.trans h
    refine lv_aload_n hx hb dX0_item_28 rfl (lv_at hl 4 rfl) ?_
    refine kVI (As := []) (rest := []) C0 (kt_X7_look l G h1 a1 f1 A1) gi_V_X0_39_X7_look (n := 0) rfl (by decide +kernel) rfl ⟨rfl, rfl, by simp only [rmGX0_items, rmX7_look]; omega, by simp only [rmGX0_items, rmX7_look]; omega⟩ hPD hS 2 7 rfl rfl rfl [2, 3] [0, 1] [0, 1, 2, 3] (wN := (wX0 G h0 a0 f0 A0 ++ (wX7 G h1 a1 f1 A1))) rfl rfl rfl rfl rfl hl.1 (Nat.le_of_ble_eq_true rfl) dX0_item_29 (fun H locs hPD hS => ?_)
    refine lv_bipush (v := 48) hx hb dX0_item_32 (by decide) ?_
    refine lv_isub hx hb dX0_item_34 ?_
    refine lv_istore (lv' := [(5, .int ((f7_look f1 A1) - 48)), (4, .int (f0 1)), (3, .int (f7_reader f1 A1)), (0, .ref h0), (1, .ref h1), (2, .int p2)]) hx hb dX0_item_35 hl (by decide) rfl (fun ls hl => ?_)
    refine lv_aload_n hx hb dX0_item_37 rfl (lv_at hl 4 rfl) ?_
    obtain ⟨z_10, ez_10, h⟩ := lvl h
    have kc := kt_X7_step l G h1 a1 f1 A1
    rw [← ez_10] at kc
    clear ez_10
    refine kVV (As := []) (rest := []) C0 (kc) gi_V_X0_57_X7_step (n := 0) rfl (by decide +kernel) rfl ⟨rfl, rfl, by simp only [rmGX0_items, rmX7_step]; omega, by simp only [rmGX0_items, rmX7_step]; omega⟩ hPD hS 2 7 rfl rfl rfl [2, 3] [0, 1] [0, 1, 2, 3] (wN := (wX0 G h0 a0 f0 A0 ++ (wX7 G h1 a1 z_10 A1))) rfl rfl rfl rfl rfl hl.1 (Nat.le_of_ble_eq_true rfl) dX0_item_38 (fun H locs hPD hS => ?_)
    exact ww_f0_item_b41 hrec0 hrec1 hrec2 hdd C0 A0 f0 z_10 (f7_reader f1 A1) (f0 1) ((f7_look f1 A1) - 48) h _ _ _ hPD hS (lv_sub hl [3, 4, 5, 2, 1, 0] rfl)

set_option maxRecDepth 100000 in
set_option maxHeartbeats 4000000 in
theorem ko_X0_group {d : Nat} {rec : Nat → (Nat → Int32) → (Nat → Nat → Int32) → (Nat → Int32) → (Nat → Nat → Int32) → Int32 → Option ((Nat → Nat → Int32) × (Nat → Int32) × (Nat → Int32))} (hrec0 : ∀ (l : Launch) (G : Gp) (h0 : Nat) (a0 : Nat → Nat) (h1 : Nat) (a1 : Nat → Nat) (f0 : Nat → Int32) (A0 : Nat → Nat → Int32) (f1 : Nat → Int32) (A1 : Nat → Nat → Int32) (p2 : Int32), ∀ {r : (Nat → Nat → Int32) × (Nat → Int32) × (Nat → Int32)}, rec 0 f0 A0 f1 A1 p2 = some r → CtrV l yX0_items cX0_items 5 none (rmGX0_items d) G [.ref h0, .ref h1, .int p2] (wX0 G h0 a0 f0 A0 ++ (wX7 G h1 a1 f1 A1)) (wX0 G h0 a0 r.2.1 r.1 ++ (wX7 G h1 a1 r.2.2 A1))) (hrec1 : ∀ (l : Launch) (G : Gp) (h0 : Nat) (a0 : Nat → Nat) (h1 : Nat) (a1 : Nat → Nat) (f0 : Nat → Int32) (A0 : Nat → Nat → Int32) (f1 : Nat → Int32) (A1 : Nat → Nat → Int32) (p2 : Int32), ∀ {r : (Nat → Nat → Int32) × (Nat → Int32) × (Nat → Int32)}, rec 1 f0 A0 f1 A1 p2 = some r → CtrV l yX0_item cX0_item 7 none (rmGX0_items d) G [.ref h0, .ref h1, .int p2] (wX0 G h0 a0 f0 A0 ++ (wX7 G h1 a1 f1 A1)) (wX0 G h0 a0 r.2.1 r.1 ++ (wX7 G h1 a1 r.2.2 A1))) (hrec2 : ∀ (l : Launch) (G : Gp) (h0 : Nat) (a0 : Nat → Nat) (h1 : Nat) (a1 : Nat → Nat) (f0 : Nat → Int32) (A0 : Nat → Nat → Int32) (f1 : Nat → Int32) (A1 : Nat → Nat → Int32) (p2 : Int32), ∀ {r : (Nat → Nat → Int32) × (Nat → Int32) × (Nat → Int32)}, rec 2 f0 A0 f1 A1 p2 = some r → CtrV l yX0_group cX0_group 3 none (rmGX0_items d) G [.ref h0, .ref h1, .int p2] (wX0 G h0 a0 f0 A0 ++ (wX7 G h1 a1 f1 A1)) (wX0 G h0 a0 r.2.1 r.1 ++ (wX7 G h1 a1 r.2.2 A1))) (hdd : True) (l : Launch) (G : Gp) (h0 : Nat) (a0 : Nat → Nat) (h1 : Nat) (a1 : Nat → Nat) (f0 : Nat → Int32) (A0 : Nat → Nat → Int32) (f1 : Nat → Int32) (A1 : Nat → Nat → Int32) (p2 : Int32) : ∀ {r : (Nat → Nat → Int32) × (Nat → Int32) × (Nat → Int32)}, f0_group rec f0 A0 f1 A1 p2 = some r → CtrV l yX0_group cX0_group 3 none (rmGX0_items (d + 1)) G [.ref h0, .ref h1, .int p2] (wX0 G h0 a0 f0 A0 ++ (wX7 G h1 a1 f1 A1)) (wX0 G h0 a0 r.2.1 r.1 ++ (wX7 G h1 a1 r.2.2 A1)) := by
  intro res h
  refine ctrV_of (cc := cX0_group) (maxL := 3) (ret := none) (by decide +kernel) rfl (Nat.le_of_ble_eq_true rfl) (fun p e s m below meth c DA C0 hP hD ls hl => ?_)
  have hPD : WD G DA (wX0 G h0 a0 f0 A0 ++ (wX7 G h1 a1 f1 A1)) s.heap := ⟨hP, hD⟩
  have hS : va_S DA s.heap s.heap [] := va_S.rf
  have hl : lv_has ls 3 [(0, .ref h0), (1, .ref h1), (2, .int p2)] := hl
  obtain ⟨hx, hb, hml, hown, hts⟩ := C0.1
  have hK := C0.2.2.2.1
  unfold f0_group at h
  refine lv_iload_n hx hb dX0_group_0 rfl (lv_at hl 2 rfl) ?_
  refine lv_iconst (v := 2) hx hb dX0_group_1 (by decide) ?_
  refine lv_icmp_lt (tgt := 11) hx hb dX0_group_2 (by decide) (fun cc1 => ?_) (fun cc1 => ?_)
  · have h := (if_pos cc1).symm.trans h
    refine lv_aload_n hx hb dX0_group_11 rfl (lv_at hl 1 rfl) ?_
    obtain ⟨z_1, ez_1, h⟩ := lvl h
    have kc := kt_X7_step l G h1 a1 f1 A1
    rw [← ez_1] at kc
    clear ez_1
    refine kVV (As := []) (rest := []) C0 (kc) gi_V_X0_57_X7_step (n := 0) rfl (by decide +kernel) rfl ⟨rfl, rfl, by simp only [rmGX0_items, rmX7_step]; omega, by simp only [rmGX0_items, rmX7_step]; omega⟩ hPD hS 2 7 rfl rfl rfl [2, 3] [0, 1] [0, 1, 2, 3] (wN := (wX0 G h0 a0 f0 A0 ++ (wX7 G h1 a1 z_1 A1))) rfl rfl rfl rfl rfl hl.1 (Nat.le_of_ble_eq_true rfl) dX0_group_12 (fun H locs hPD hS => ?_)
    refine lv_aload_n hx hb dX0_group_15 rfl (lv_at hl 0 rfl) ?_
    refine lv_aload_n hx hb dX0_group_16 rfl (lv_at hl 1 rfl) ?_
    refine lv_iload_n hx hb dX0_group_17 rfl (lv_at hl 2 rfl) ?_
    refine lv_iconst (v := 1) hx hb dX0_group_18 (by decide) ?_
    refine lv_iadd hx hb dX0_group_19 ?_
    obtain ⟨q_2, hq_2, h⟩ := ob2 h
    refine kVV (As := [.ref h1, .int (p2 + 1)]) (rest := []) C0 (hrec0 l G h0 a0 h1 a1 f0 A0 z_1 A1 (p2 + 1) hq_2) gi_V_X0_29_X0_items (n := 2) rfl (by decide +kernel) rfl ⟨rfl, rfl, by simp only [rmGX0_items]; omega, by simp only [rmGX0_items]; omega⟩ hPD hS 0 0 rfl rfl rfl [0, 1, 2, 3] [] [0, 1, 2, 3] (wN := (wX0 G h0 a0 q_2.2.1 q_2.1 ++ (wX7 G h1 a1 q_2.2.2 A1))) rfl rfl rfl rfl rfl hl.1 (Nat.le_of_ble_eq_true rfl) dX0_group_20 (fun H locs hPD hS => ?_)
    refine lv_aload_n hx hb dX0_group_23 rfl (lv_at hl 1 rfl) ?_
    refine kVI (As := []) (rest := []) C0 (kt_X7_isFine l G h1 a1 q_2.2.2 A1) gi_V_X0_33_X7_isFine (n := 0) rfl (by decide +kernel) rfl ⟨rfl, rfl, by simp only [rmGX0_items, rmX7_isFine]; omega, by simp only [rmGX0_items, rmX7_isFine]; omega⟩ hPD hS 2 7 rfl rfl rfl [2, 3] [0, 1] [0, 1, 2, 3] (wN := (wX0 G h0 a0 q_2.2.1 q_2.1 ++ (wX7 G h1 a1 q_2.2.2 A1))) rfl rfl rfl rfl rfl hl.1 (Nat.le_of_ble_eq_true rfl) dX0_group_24 (fun H locs hPD hS => ?_)
    refine lv_if_eq (tgt := 37) hx hb dX0_group_27 (by decide) (fun cc1 => ?_) (fun cc1 => ?_)
    · have h := (if_pos cc1).symm.trans h
      obtain rfl := Option.some.inj h
      exact eV C0 hPD.1 hPD.2 hS dX0_group_37
    · have h := (if_neg cc1).symm.trans h
      refine lv_aload_n hx hb dX0_group_30 rfl (lv_at hl 1 rfl) ?_
      refine lv_bipush (v := 41) hx hb dX0_group_31 (by decide) ?_
      obtain ⟨q_3, hq_3, h⟩ := ob2 h
      refine kVI (As := [.int 41]) (rest := []) C0 (kt_X7_take l G h1 a1 q_2.2.2 A1 41 hq_3) gi_V_X0_79_X7_take (n := 1) rfl (by decide +kernel) rfl ⟨rfl, rfl, by simp only [rmGX0_items, rmX7_take]; omega, by simp only [rmGX0_items, rmX7_take]; omega⟩ hPD hS 2 7 rfl rfl rfl [2, 3] [0, 1] [0, 1, 2, 3] (wN := (wX0 G h0 a0 q_2.2.1 q_2.1 ++ (wX7 G h1 a1 q_3.2 A1))) rfl rfl rfl rfl rfl hl.1 (Nat.le_of_ble_eq_true rfl) dX0_group_33 (fun H locs hPD hS => ?_)
      refine lv_pop hx hb dX0_group_36 rfl ?_
      obtain rfl := Option.some.inj h
      exact eV C0 hPD.1 hPD.2 hS dX0_group_37
  · have h := (if_neg cc1).symm.trans h
    refine lv_aload_n hx hb dX0_group_5 rfl (lv_at hl 1 rfl) ?_
    refine lv_iconst (v := 5) hx hb dX0_group_6 (by decide) ?_
    obtain ⟨z_4, ez_4, h⟩ := lvl h
    have kc := kt_X7_fail l G h1 a1 f1 A1 5
    rw [← ez_4] at kc
    clear ez_4
    refine kVV (As := [.int 5]) (rest := []) C0 (kc) gi_V_X0_43_X7_fail (n := 1) rfl (by decide +kernel) rfl ⟨rfl, rfl, by simp only [rmGX0_items, rmX7_fail]; omega, by simp only [rmGX0_items, rmX7_fail]; omega⟩ hPD hS 2 7 rfl rfl rfl [2, 3] [0, 1] [0, 1, 2, 3] (wN := (wX0 G h0 a0 f0 A0 ++ (wX7 G h1 a1 z_4 A1))) rfl rfl rfl rfl rfl hl.1 (Nat.le_of_ble_eq_true rfl) dX0_group_7 (fun H locs hPD hS => ?_)
    obtain rfl := Option.some.inj h
    exact eV C0 hPD.1 hPD.2 hS dX0_group_10

set_option maxRecDepth 100000 in
set_option maxHeartbeats 4000000 in
theorem kg_X0_items : ∀ d : Nat, (∀ (l : Launch) (G : Gp) (h0 : Nat) (a0 : Nat → Nat) (h1 : Nat) (a1 : Nat → Nat) (f0 : Nat → Int32) (A0 : Nat → Nat → Int32) (f1 : Nat → Int32) (A1 : Nat → Nat → Int32) (p2 : Int32), ∀ {r : (Nat → Nat → Int32) × (Nat → Int32) × (Nat → Int32)}, f0_items_rec d 0 f0 A0 f1 A1 p2 = some r → CtrV l yX0_items cX0_items 5 none (rmGX0_items d) G [.ref h0, .ref h1, .int p2] (wX0 G h0 a0 f0 A0 ++ (wX7 G h1 a1 f1 A1)) (wX0 G h0 a0 r.2.1 r.1 ++ (wX7 G h1 a1 r.2.2 A1))) ∧ (∀ (l : Launch) (G : Gp) (h0 : Nat) (a0 : Nat → Nat) (h1 : Nat) (a1 : Nat → Nat) (f0 : Nat → Int32) (A0 : Nat → Nat → Int32) (f1 : Nat → Int32) (A1 : Nat → Nat → Int32) (p2 : Int32), ∀ {r : (Nat → Nat → Int32) × (Nat → Int32) × (Nat → Int32)}, f0_items_rec d 1 f0 A0 f1 A1 p2 = some r → CtrV l yX0_item cX0_item 7 none (rmGX0_items d) G [.ref h0, .ref h1, .int p2] (wX0 G h0 a0 f0 A0 ++ (wX7 G h1 a1 f1 A1)) (wX0 G h0 a0 r.2.1 r.1 ++ (wX7 G h1 a1 r.2.2 A1))) ∧ (∀ (l : Launch) (G : Gp) (h0 : Nat) (a0 : Nat → Nat) (h1 : Nat) (a1 : Nat → Nat) (f0 : Nat → Int32) (A0 : Nat → Nat → Int32) (f1 : Nat → Int32) (A1 : Nat → Nat → Int32) (p2 : Int32), ∀ {r : (Nat → Nat → Int32) × (Nat → Int32) × (Nat → Int32)}, f0_items_rec d 2 f0 A0 f1 A1 p2 = some r → CtrV l yX0_group cX0_group 3 none (rmGX0_items d) G [.ref h0, .ref h1, .int p2] (wX0 G h0 a0 f0 A0 ++ (wX7 G h1 a1 f1 A1)) (wX0 G h0 a0 r.2.1 r.1 ++ (wX7 G h1 a1 r.2.2 A1))) := by
  intro d
  induction d with
  | zero => exact ⟨fun _ _ _ _ _ _ _ _ _ _ _ r h => (by cases h), fun _ _ _ _ _ _ _ _ _ _ _ r h => (by cases h), fun _ _ _ _ _ _ _ _ _ _ _ r h => (by cases h)⟩
  | succ d ih =>
    obtain ⟨h0, h1, h2⟩ := ih
    exact ⟨fun l G v0 v1 v2 v3 v4 v5 v6 v7 v8 r h => ko_X0_items h0 h1 h2 trivial l G v0 v1 v2 v3 v4 v5 v6 v7 v8 h, fun l G v0 v1 v2 v3 v4 v5 v6 v7 v8 r h => ko_X0_item h0 h1 h2 trivial l G v0 v1 v2 v3 v4 v5 v6 v7 v8 h, fun l G v0 v1 v2 v3 v4 v5 v6 v7 v8 r h => ko_X0_group h0 h1 h2 trivial l G v0 v1 v2 v3 v4 v5 v6 v7 v8 h⟩
theorem kt_X0_items (d : Nat) : ∀ (l : Launch) (G : Gp) (h0 : Nat) (a0 : Nat → Nat) (h1 : Nat) (a1 : Nat → Nat) (f0 : Nat → Int32) (A0 : Nat → Nat → Int32) (f1 : Nat → Int32) (A1 : Nat → Nat → Int32) (p2 : Int32), ∀ {r : (Nat → Nat → Int32) × (Nat → Int32) × (Nat → Int32)}, f0_items_rec d 0 f0 A0 f1 A1 p2 = some r → CtrV l yX0_items cX0_items 5 none (rmGX0_items d) G [.ref h0, .ref h1, .int p2] (wX0 G h0 a0 f0 A0 ++ (wX7 G h1 a1 f1 A1)) (wX0 G h0 a0 r.2.1 r.1 ++ (wX7 G h1 a1 r.2.2 A1)) := (kg_X0_items d).1
theorem kt_X0_item (d : Nat) : ∀ (l : Launch) (G : Gp) (h0 : Nat) (a0 : Nat → Nat) (h1 : Nat) (a1 : Nat → Nat) (f0 : Nat → Int32) (A0 : Nat → Nat → Int32) (f1 : Nat → Int32) (A1 : Nat → Nat → Int32) (p2 : Int32), ∀ {r : (Nat → Nat → Int32) × (Nat → Int32) × (Nat → Int32)}, f0_items_rec d 1 f0 A0 f1 A1 p2 = some r → CtrV l yX0_item cX0_item 7 none (rmGX0_items d) G [.ref h0, .ref h1, .int p2] (wX0 G h0 a0 f0 A0 ++ (wX7 G h1 a1 f1 A1)) (wX0 G h0 a0 r.2.1 r.1 ++ (wX7 G h1 a1 r.2.2 A1)) := (kg_X0_items d).2.1
theorem kt_X0_group (d : Nat) : ∀ (l : Launch) (G : Gp) (h0 : Nat) (a0 : Nat → Nat) (h1 : Nat) (a1 : Nat → Nat) (f0 : Nat → Int32) (A0 : Nat → Nat → Int32) (f1 : Nat → Int32) (A1 : Nat → Nat → Int32) (p2 : Int32), ∀ {r : (Nat → Nat → Int32) × (Nat → Int32) × (Nat → Int32)}, f0_items_rec d 2 f0 A0 f1 A1 p2 = some r → CtrV l yX0_group cX0_group 3 none (rmGX0_items d) G [.ref h0, .ref h1, .int p2] (wX0 G h0 a0 f0 A0 ++ (wX7 G h1 a1 f1 A1)) (wX0 G h0 a0 r.2.1 r.1 ++ (wX7 G h1 a1 r.2.2 A1)) := (kg_X0_items d).2.2
abbrev rmX0_read : Room := { frames := 68, cells := 0, slots := 0, locals := 1752 }
set_option maxRecDepth 100000 in
set_option maxHeartbeats 4000000 in
theorem kt_X0_read (l : Launch) (G : Gp) (h0 : Nat) (a0 : Nat → Nat) (h1 : Nat) (a1 : Nat → Nat) (f0 : Nat → Int32) (A0 : Nat → Nat → Int32) (f1 : Nat → Int32) (A1 : Nat → Nat → Int32) : ∀ {r : (Nat → Nat → Int32) × (Nat → Int32) × (Nat → Int32)}, f0_read f0 A0 f1 A1 = some r → CtrV l yX0_read cX0_read 2 none rmX0_read G [.ref h0, .ref h1] (wX0 G h0 a0 f0 A0 ++ (wX7 G h1 a1 f1 A1)) (wX0 G h0 a0 r.2.1 r.1 ++ (wX7 G h1 a1 r.2.2 A1)) := by
  intro res h
  refine ctrV_of (cc := cX0_read) (maxL := 2) (ret := none) (by decide +kernel) rfl (Nat.le_of_ble_eq_true rfl) (fun p e s m below meth c DA C0 hP hD ls hl => ?_)
  have hPD : WD G DA (wX0 G h0 a0 f0 A0 ++ (wX7 G h1 a1 f1 A1)) s.heap := ⟨hP, hD⟩
  have hS : va_S DA s.heap s.heap [] := va_S.rf
  have hl : lv_has ls 2 [(0, .ref h0), (1, .ref h1)] := hl
  obtain ⟨hx, hb, hml, hown, hts⟩ := C0.1
  have hK := C0.2.2.2.1
  unfold f0_read at h
  refine lv_aload_n hx hb dX0_read_0 rfl (lv_at hl 0 rfl) ?_
  refine lv_iconst (v := 0) hx hb dX0_read_1 (by decide) ?_
  refine va_put (D := G.1) (ci := 0) (v := .int 0) (ty := .int) (C := RX0) (T := TX0) (N := 2) hx hb hts inlX0 tyX0 tyX0_ok nmX0 hown hK hPD.1 hPD.2 hS 0 rfl rfl 1 (by decide) (hts _ gw_0) (fun _ h9 => h9) rfl (by decide +kernel) rfl rfl (Nat.le_of_ble_eq_true rfl) dX0_read_2 (fun H locs hP hD hS => ?_)
  obtain ⟨f0_1, ef0_1, h⟩ := lvl h
  have hPD : WD G DA (wX0 G h0 a0 f0_1 A0 ++ (wX7 G h1 a1 f1 A1)) H := by rw [ef0_1]; exact ⟨hP, hD⟩
  clear ef0_1 hP hD
  refine lv_aload_n hx hb dX0_read_5 rfl (lv_at hl 0 rfl) ?_
  refine lv_aload_n hx hb dX0_read_6 rfl (lv_at hl 1 rfl) ?_
  refine lv_iconst (v := 0) hx hb dX0_read_7 (by decide) ?_
  obtain ⟨q_2, hq_2, h⟩ := ob2 h
  refine kVV (As := [.ref h1, .int 0]) (rest := []) C0 (kt_X0_items 64 l G h0 a0 h1 a1 f0_1 A0 f1 A1 0 hq_2) gi_V_X0_29_X0_items (n := 2) rfl (by decide +kernel) rfl ⟨rfl, rfl, Nat.le_of_ble_eq_true rfl, Nat.le_of_ble_eq_true rfl⟩ hPD hS 0 0 rfl rfl rfl [0, 1, 2, 3] [] [0, 1, 2, 3] (wN := (wX0 G h0 a0 q_2.2.1 q_2.1 ++ (wX7 G h1 a1 q_2.2.2 A1))) rfl rfl rfl rfl rfl hl.1 (Nat.le_of_ble_eq_true rfl) dX0_read_8 (fun H locs hPD hS => ?_)
  refine lv_aload_n hx hb dX0_read_11 rfl (lv_at hl 1 rfl) ?_
  refine kVI (As := []) (rest := []) C0 (kt_X7_isFine l G h1 a1 q_2.2.2 A1) gi_V_X0_33_X7_isFine (n := 0) rfl (by decide +kernel) rfl ⟨rfl, rfl, Nat.le_of_ble_eq_true rfl, Nat.le_of_ble_eq_true rfl⟩ hPD hS 2 7 rfl rfl rfl [2, 3] [0, 1] [0, 1, 2, 3] (wN := (wX0 G h0 a0 q_2.2.1 q_2.1 ++ (wX7 G h1 a1 q_2.2.2 A1))) rfl rfl rfl rfl rfl hl.1 (Nat.le_of_ble_eq_true rfl) dX0_read_12 (fun H locs hPD hS => ?_)
  refine lv_if_eq (tgt := 31) hx hb dX0_read_15 (by decide) (fun cc1 => ?_) (fun cc1 => ?_)
  · have h := (if_pos cc1).symm.trans h
    obtain rfl := Option.some.inj h
    exact eV C0 hPD.1 hPD.2 hS dX0_read_31
  · have h := (if_neg cc1).symm.trans h
    refine lv_aload_n hx hb dX0_read_18 rfl (lv_at hl 1 rfl) ?_
    refine kVI (As := []) (rest := []) C0 (kt_X7_look l G h1 a1 q_2.2.2 A1) gi_V_X0_39_X7_look (n := 0) rfl (by decide +kernel) rfl ⟨rfl, rfl, Nat.le_of_ble_eq_true rfl, Nat.le_of_ble_eq_true rfl⟩ hPD hS 2 7 rfl rfl rfl [2, 3] [0, 1] [0, 1, 2, 3] (wN := (wX0 G h0 a0 q_2.2.1 q_2.1 ++ (wX7 G h1 a1 q_2.2.2 A1))) rfl rfl rfl rfl rfl hl.1 (Nat.le_of_ble_eq_true rfl) dX0_read_19 (fun H locs hPD hS => ?_)
    refine lv_iconst (v := (-1)) hx hb dX0_read_22 (by decide) ?_
    refine lv_icmp_eq (tgt := 31) hx hb dX0_read_23 (by decide) (fun cc1 => ?_) (fun cc1 => ?_)
    · have h := (if_pos cc1).symm.trans h
      obtain rfl := Option.some.inj h
      exact eV C0 hPD.1 hPD.2 hS dX0_read_31
    · have h := (if_neg cc1).symm.trans h
      refine lv_aload_n hx hb dX0_read_26 rfl (lv_at hl 1 rfl) ?_
      refine lv_iconst (v := 1) hx hb dX0_read_27 (by decide) ?_
      obtain ⟨z_3, ez_3, h⟩ := lvl h
      have kc := kt_X7_fail l G h1 a1 q_2.2.2 A1 1
      rw [← ez_3] at kc
      clear ez_3
      refine kVV (As := [.int 1]) (rest := []) C0 (kc) gi_V_X0_43_X7_fail (n := 1) rfl (by decide +kernel) rfl ⟨rfl, rfl, Nat.le_of_ble_eq_true rfl, Nat.le_of_ble_eq_true rfl⟩ hPD hS 2 7 rfl rfl rfl [2, 3] [0, 1] [0, 1, 2, 3] (wN := (wX0 G h0 a0 q_2.2.1 q_2.1 ++ (wX7 G h1 a1 z_3 A1))) rfl rfl rfl rfl rfl hl.1 (Nat.le_of_ble_eq_true rfl) dX0_read_28 (fun H locs hPD hS => ?_)
      obtain rfl := Option.some.inj h
      exact eV C0 hPD.1 hPD.2 hS dX0_read_31
abbrev rmX9_has : Room := { frames := 1, cells := 0, slots := 0, locals := 22 }
set_option maxRecDepth 100000 in
set_option maxHeartbeats 4000000 in
theorem kt_X9_has (l : Launch) (G : Gp) (p0 : Int32) (p1 : Int32) : CtrI l yX9_has cX9_has 2 (some .boolean) rmX9_has G [.int p0, .int p1] ([] : va_W) (f9_has p0 p1) ([] : va_W) := by
  obtain ⟨res, h⟩ : ∃ res, f9_has p0 p1 = res := ⟨_, rfl⟩
  rw [h]
  refine ctrI_of (cc := cX9_has) (maxL := 2) (ret := (some .boolean)) (by decide +kernel) rfl (Nat.le_of_ble_eq_true rfl) (fun p e s m below meth c DA C0 hP hD ls hl => ?_)
  have hPD : WD G DA ([] : va_W) s.heap := ⟨hP, hD⟩
  have hS : va_S DA s.heap s.heap [] := va_S.rf
  have hl : lv_has ls 2 [(0, .int p0), (1, .int p1)] := hl
  obtain ⟨hx, hb, hml, hown, hts⟩ := C0.1
  have hK := C0.2.2.2.1
  unfold f9_has at h
  refine lv_iload_n hx hb dX9_has_0 rfl (lv_at hl 1 rfl) ?_
  refine lv_iconst (v := 0) hx hb dX9_has_1 (by decide) ?_
  refine lv_bipush (v := 31) hx hb dX9_has_2 (by decide) ?_
  refine kSI (As := [.int p1, .int 0, .int 31]) (rest := []) C0 (kt_X9_within l G  p1 0 31) gi_S_X9_90_X9_within (n := 3) rfl (by decide +kernel) ⟨rfl, rfl, Nat.le_of_ble_eq_true rfl, Nat.le_of_ble_eq_true rfl⟩ hPD hS [] [] [] (wN := ([] : va_W)) rfl rfl rfl rfl rfl hl.1 (Nat.le_of_ble_eq_true rfl) dX9_has_4 (fun H locs hPD hS => ?_)
  refine lv_if_eq (tgt := 23) hx hb dX9_has_7 (by decide) (fun cc1 => ?_) (fun cc1 => ?_)
  · have h := (if_pos cc1).symm.trans h
    refine lv_iconst (v := 0) hx hb dX9_has_23 (by decide) ?_
    subst h
    exact eZ C0 hPD.1 hPD.2 hS rfl rfl dX9_has_24
  · have h := (if_neg cc1).symm.trans h
    refine lv_iload_n hx hb dX9_has_10 rfl (lv_at hl 0 rfl) ?_
    refine lv_iload_n hx hb dX9_has_11 rfl (lv_at hl 1 rfl) ?_
    refine lv_iushr (v := ushr p0 p1) hx hb dX9_has_12 rfl ?_
    refine lv_iconst (v := 1) hx hb dX9_has_13 (by decide) ?_
    refine lv_iand hx hb dX9_has_14 ?_
    refine lv_iconst (v := 1) hx hb dX9_has_15 (by decide) ?_
    refine lv_icmp_ne (tgt := 23) hx hb dX9_has_16 (by decide) (fun cc1 => ?_) (fun cc1 => ?_)
    · have h := (if_neg cc1).symm.trans h
      refine lv_iconst (v := 0) hx hb dX9_has_23 (by decide) ?_
      subst h
      exact eZ C0 hPD.1 hPD.2 hS rfl rfl dX9_has_24
    · have h := (if_pos cc1).symm.trans h
      refine lv_iconst (v := 1) hx hb dX9_has_19 (by decide) ?_
      refine lv_goto (tgt := 24) hx hb dX9_has_20 (by decide) ?_
      subst h
      exact eZ C0 hPD.1 hPD.2 hS rfl rfl dX9_has_24
abbrev rmX1_isTold : Room := { frames := 2, cells := 0, slots := 0, locals := 43 }
set_option maxRecDepth 100000 in
set_option maxHeartbeats 4000000 in
theorem kt_X1_isTold (l : Launch) (G : Gp) (h0 : Nat) (a0 : Nat → Nat) (f0 : Nat → Int32) (A0 : Nat → Nat → Int32) (p1 : Int32) : CtrI l yX1_isTold cX1_isTold 2 (some .boolean) rmX1_isTold G [.ref h0, .int p1] (wX1 G h0 a0 f0 A0) (f1_isTold f0 A0 p1) (wX1 G h0 a0 f0 A0) := by
  obtain ⟨res, h⟩ : ∃ res, f1_isTold f0 A0 p1 = res := ⟨_, rfl⟩
  rw [h]
  refine ctrI_of (cc := cX1_isTold) (maxL := 2) (ret := (some .boolean)) (by decide +kernel) rfl (Nat.le_of_ble_eq_true rfl) (fun p e s m below meth c DA C0 hP hD ls hl => ?_)
  have hPD : WD G DA (wX1 G h0 a0 f0 A0) s.heap := ⟨hP, hD⟩
  have hS : va_S DA s.heap s.heap [] := va_S.rf
  have hl : lv_has ls 2 [(0, .ref h0), (1, .int p1)] := hl
  obtain ⟨hx, hb, hml, hown, hts⟩ := C0.1
  have hK := C0.2.2.2.1
  unfold f1_isTold at h
  refine lv_iload_n hx hb dX1_isTold_0 rfl (lv_at hl 1 rfl) ?_
  refine lv_iconst (v := 0) hx hb dX1_isTold_1 (by decide) ?_
  refine lv_bipush (v := 15) hx hb dX1_isTold_2 (by decide) ?_
  refine kNI (As := [.int p1, .int 0, .int 15]) (rest := []) C0 (kt_X9_within l G  p1 0 15) gi_U_X9_within (host := "IdleCrimes") (index := 25) (List.mem_of_getElem? (i := 8) rfl) gw_6 gw_25 (n := 3) rfl (by decide +kernel) ⟨rfl, rfl, Nat.le_of_ble_eq_true rfl, Nat.le_of_ble_eq_true rfl⟩ hPD hS [] [0, 1, 2, 3] [0, 1, 2, 3] (wN := (wX1 G h0 a0 f0 A0)) rfl rfl rfl rfl rfl hl.1 (Nat.le_of_ble_eq_true rfl) dX1_isTold_4 (fun H locs hPD hS => ?_)
  refine lv_if_eq (tgt := 25) hx hb dX1_isTold_7 (by decide) (fun cc1 => ?_) (fun cc1 => ?_)
  · have h := (if_pos cc1).symm.trans h
    refine lv_iconst (v := 0) hx hb dX1_isTold_25 (by decide) ?_
    subst h
    exact eZ C0 hPD.1 hPD.2 hS rfl rfl dX1_isTold_26
  · have h := (if_neg cc1).symm.trans h
    refine lv_aload_n hx hb dX1_isTold_10 rfl (lv_at hl 0 rfl) ?_
    refine va_get (D := G.1) (ci := 1) (v := .int (f0 0)) (C := RX1) (T := TX1) (N := 4) hx hb hts inlX1 hown hK hPD.1 0 rfl rfl 0 (by decide) (hts _ gw_72) (fun _ h9 => h9) rfl dX1_isTold_11 ?_
    refine lv_iload_n hx hb dX1_isTold_14 rfl (lv_at hl 1 rfl) ?_
    refine kNI (As := [.int (f0 0), .int p1]) (rest := []) C0 (kt_X9_has l G  (f0 0) p1) gi_U_X9_has (host := "IdleCrimes") (index := 29) (List.mem_of_getElem? (i := 9) rfl) gw_6 gw_73 (n := 2) rfl (by decide +kernel) ⟨rfl, rfl, Nat.le_of_ble_eq_true rfl, Nat.le_of_ble_eq_true rfl⟩ hPD hS [] [0, 1, 2, 3] [0, 1, 2, 3] (wN := (wX1 G h0 a0 f0 A0)) rfl rfl rfl rfl rfl hl.1 (Nat.le_of_ble_eq_true rfl) dX1_isTold_15 (fun H locs hPD hS => ?_)
    refine lv_if_eq (tgt := 25) hx hb dX1_isTold_18 (by decide) (fun cc1 => ?_) (fun cc1 => ?_)
    · have h := (if_pos cc1).symm.trans h
      refine lv_iconst (v := 0) hx hb dX1_isTold_25 (by decide) ?_
      subst h
      exact eZ C0 hPD.1 hPD.2 hS rfl rfl dX1_isTold_26
    · have h := (if_neg cc1).symm.trans h
      refine lv_iconst (v := 1) hx hb dX1_isTold_21 (by decide) ?_
      refine lv_goto (tgt := 26) hx hb dX1_isTold_22 (by decide) ?_
      subst h
      exact eZ C0 hPD.1 hPD.2 hS rfl rfl dX1_isTold_26
abbrev rmX1_join : Room := { frames := 1, cells := 0, slots := 0, locals := 22 }
set_option maxRecDepth 100000 in
set_option maxHeartbeats 4000000 in
theorem kt_X1_join (l : Launch) (G : Gp) (h0 : Nat) (a0 : Nat → Nat) (f0 : Nat → Int32) (A0 : Nat → Nat → Int32) (p1 : Int32) (p2 : Int32) : CtrV l yX1_join cX1_join 3 none rmX1_join G [.ref h0, .int p1, .int p2] (wX1 G h0 a0 f0 A0) (wX1 G h0 a0 f0 (f1_join f0 A0 p1 p2)) := by
  obtain ⟨res, h⟩ : ∃ res, f1_join f0 A0 p1 p2 = res := ⟨_, rfl⟩
  rw [h]
  refine ctrV_of (cc := cX1_join) (maxL := 3) (ret := none) (by decide +kernel) rfl (Nat.le_of_ble_eq_true rfl) (fun p e s m below meth c DA C0 hP hD ls hl => ?_)
  have hPD : WD G DA (wX1 G h0 a0 f0 A0) s.heap := ⟨hP, hD⟩
  have hS : va_S DA s.heap s.heap [] := va_S.rf
  have hl : lv_has ls 3 [(0, .ref h0), (1, .int p1), (2, .int p2)] := hl
  obtain ⟨hx, hb, hml, hown, hts⟩ := C0.1
  have hK := C0.2.2.2.1
  unfold f1_join at h
  refine lv_aload_n hx hb dX1_join_0 rfl (lv_at hl 0 rfl) ?_
  refine va_get (D := G.1) (ci := 1) (v := .ref (a0 1)) (C := RX1) (T := TX1) (N := 4) hx hb hts inlX1 hown hK hPD.1 0 rfl rfl 1 (by decide) (hts _ gw_75) (fun _ h9 => h9) rfl dX1_join_1 ?_
  refine lv_iload_n hx hb dX1_join_4 rfl (lv_at hl 1 rfl) ?_
  refine lv_aload_n hx hb dX1_join_5 rfl (lv_at hl 0 rfl) ?_
  refine va_get (D := G.1) (ci := 1) (v := .ref (a0 1)) (C := RX1) (T := TX1) (N := 4) hx hb hts inlX1 hown hK hPD.1 0 rfl rfl 1 (by decide) (hts _ gw_75) (fun _ h9 => h9) rfl dX1_join_6 ?_
  refine lv_iload_n hx hb dX1_join_9 rfl (lv_at hl 1 rfl) ?_
  refine kNI (As := [.ref (a0 1), .int p1]) (rest := [.int p1, .ref (a0 1)]) C0 (kt_X9_at l G (a0 1) 16 (A0 1) p1 (by decide)) gi_U_X9_at (host := "IdleCrimes") (index := 33) (List.mem_of_getElem? (i := 20) rfl) gw_6 gw_7 (n := 2) rfl (by decide +kernel) ⟨rfl, rfl, Nat.le_of_ble_eq_true rfl, Nat.le_of_ble_eq_true rfl⟩ hPD hS [1] [0, 2, 3] [0, 3, 1, 2] (wN := (wX1 G h0 a0 f0 A0)) rfl rfl rfl rfl rfl hl.1 (Nat.le_of_ble_eq_true rfl) dX1_join_10 (fun H locs hPD hS => ?_)
  refine lv_iconst (v := 1) hx hb dX1_join_13 (by decide) ?_
  refine lv_iload_n hx hb dX1_join_14 rfl (lv_at hl 2 rfl) ?_
  refine lv_ishl hx hb dX1_join_15 ?_
  refine lv_ior hx hb dX1_join_16 ?_
  obtain ⟨z_1, ez_1, h⟩ := lvl h
  have kc := kt_X9_put l G (a0 1) 16 (A0 1) p1 ((f9_at 16 (A0 1) p1) ||| (shl 1 p2)) (by decide)
  rw [← ez_1] at kc
  clear ez_1
  refine kNV (As := [.ref (a0 1), .int p1, .int ((f9_at 16 (A0 1) p1) ||| (shl 1 p2))]) (rest := []) C0 (kc) gi_U_X9_put (host := "IdleCrimes") (index := 37) (List.mem_of_getElem? (i := 21) rfl) gw_6 gw_19 (n := 3) rfl (by decide +kernel) ⟨rfl, rfl, Nat.le_of_ble_eq_true rfl, Nat.le_of_ble_eq_true rfl⟩ hPD hS [1] [0, 2, 3] [0, 3, 1, 2] (wN := (wX1 G h0 a0 f0 (updA A0 1 z_1))) rfl rfl rfl rfl rfl hl.1 (Nat.le_of_ble_eq_true rfl) dX1_join_17 (fun H locs hPD hS => ?_)
  obtain ⟨A0_2, eA0_2, h⟩ := lvl h
  have hPD : WD G DA (wX1 G h0 a0 f0 A0_2) H := by rw [eA0_2]; exact hPD
  clear eA0_2
  refine lv_aload_n hx hb dX1_join_20 rfl (lv_at hl 0 rfl) ?_
  refine va_get (D := G.1) (ci := 1) (v := .ref (a0 1)) (C := RX1) (T := TX1) (N := 4) hx hb hts inlX1 hown hK hPD.1 0 rfl rfl 1 (by decide) (hts _ gw_75) (fun _ h9 => h9) rfl dX1_join_21 ?_
  refine lv_iload_n hx hb dX1_join_24 rfl (lv_at hl 2 rfl) ?_
  refine lv_aload_n hx hb dX1_join_25 rfl (lv_at hl 0 rfl) ?_
  refine va_get (D := G.1) (ci := 1) (v := .ref (a0 1)) (C := RX1) (T := TX1) (N := 4) hx hb hts inlX1 hown hK hPD.1 0 rfl rfl 1 (by decide) (hts _ gw_75) (fun _ h9 => h9) rfl dX1_join_26 ?_
  refine lv_iload_n hx hb dX1_join_29 rfl (lv_at hl 2 rfl) ?_
  refine kNI (As := [.ref (a0 1), .int p2]) (rest := [.int p2, .ref (a0 1)]) C0 (kt_X9_at l G (a0 1) 16 (A0_2 1) p2 (by decide)) gi_U_X9_at (host := "IdleCrimes") (index := 33) (List.mem_of_getElem? (i := 20) rfl) gw_6 gw_7 (n := 2) rfl (by decide +kernel) ⟨rfl, rfl, Nat.le_of_ble_eq_true rfl, Nat.le_of_ble_eq_true rfl⟩ hPD hS [1] [0, 2, 3] [0, 3, 1, 2] (wN := (wX1 G h0 a0 f0 A0_2)) rfl rfl rfl rfl rfl hl.1 (Nat.le_of_ble_eq_true rfl) dX1_join_30 (fun H locs hPD hS => ?_)
  refine lv_iconst (v := 1) hx hb dX1_join_33 (by decide) ?_
  refine lv_iload_n hx hb dX1_join_34 rfl (lv_at hl 1 rfl) ?_
  refine lv_ishl hx hb dX1_join_35 ?_
  refine lv_ior hx hb dX1_join_36 ?_
  obtain ⟨z_3, ez_3, h⟩ := lvl h
  have kc := kt_X9_put l G (a0 1) 16 (A0_2 1) p2 ((f9_at 16 (A0_2 1) p2) ||| (shl 1 p1)) (by decide)
  rw [← ez_3] at kc
  clear ez_3
  refine kNV (As := [.ref (a0 1), .int p2, .int ((f9_at 16 (A0_2 1) p2) ||| (shl 1 p1))]) (rest := []) C0 (kc) gi_U_X9_put (host := "IdleCrimes") (index := 37) (List.mem_of_getElem? (i := 21) rfl) gw_6 gw_19 (n := 3) rfl (by decide +kernel) ⟨rfl, rfl, Nat.le_of_ble_eq_true rfl, Nat.le_of_ble_eq_true rfl⟩ hPD hS [1] [0, 2, 3] [0, 3, 1, 2] (wN := (wX1 G h0 a0 f0 (updA A0_2 1 z_3))) rfl rfl rfl rfl rfl hl.1 (Nat.le_of_ble_eq_true rfl) dX1_join_37 (fun H locs hPD hS => ?_)
  obtain ⟨A0_4, eA0_4, h⟩ := lvl h
  have hPD : WD G DA (wX1 G h0 a0 f0 A0_4) H := by rw [eA0_4]; exact hPD
  clear eA0_4
  subst h
  exact eV C0 hPD.1 hPD.2 hS dX1_join_40
abbrev rmX1_part : Room := { frames := 1, cells := 0, slots := 0, locals := 22 }
set_option maxRecDepth 100000 in
set_option maxHeartbeats 4000000 in
theorem kt_X1_part (l : Launch) (G : Gp) (h0 : Nat) (a0 : Nat → Nat) (f0 : Nat → Int32) (A0 : Nat → Nat → Int32) (p1 : Int32) (p2 : Int32) : CtrV l yX1_part cX1_part 3 none rmX1_part G [.ref h0, .int p1, .int p2] (wX1 G h0 a0 f0 A0) (wX1 G h0 a0 f0 (f1_part f0 A0 p1 p2)) := by
  obtain ⟨res, h⟩ : ∃ res, f1_part f0 A0 p1 p2 = res := ⟨_, rfl⟩
  rw [h]
  refine ctrV_of (cc := cX1_part) (maxL := 3) (ret := none) (by decide +kernel) rfl (Nat.le_of_ble_eq_true rfl) (fun p e s m below meth c DA C0 hP hD ls hl => ?_)
  have hPD : WD G DA (wX1 G h0 a0 f0 A0) s.heap := ⟨hP, hD⟩
  have hS : va_S DA s.heap s.heap [] := va_S.rf
  have hl : lv_has ls 3 [(0, .ref h0), (1, .int p1), (2, .int p2)] := hl
  obtain ⟨hx, hb, hml, hown, hts⟩ := C0.1
  have hK := C0.2.2.2.1
  unfold f1_part at h
  refine lv_aload_n hx hb dX1_part_0 rfl (lv_at hl 0 rfl) ?_
  refine va_get (D := G.1) (ci := 1) (v := .ref (a0 1)) (C := RX1) (T := TX1) (N := 4) hx hb hts inlX1 hown hK hPD.1 0 rfl rfl 1 (by decide) (hts _ gw_75) (fun _ h9 => h9) rfl dX1_part_1 ?_
  refine lv_iload_n hx hb dX1_part_4 rfl (lv_at hl 1 rfl) ?_
  refine lv_aload_n hx hb dX1_part_5 rfl (lv_at hl 0 rfl) ?_
  refine va_get (D := G.1) (ci := 1) (v := .ref (a0 1)) (C := RX1) (T := TX1) (N := 4) hx hb hts inlX1 hown hK hPD.1 0 rfl rfl 1 (by decide) (hts _ gw_75) (fun _ h9 => h9) rfl dX1_part_6 ?_
  refine lv_iload_n hx hb dX1_part_9 rfl (lv_at hl 1 rfl) ?_
  refine kNI (As := [.ref (a0 1), .int p1]) (rest := [.int p1, .ref (a0 1)]) C0 (kt_X9_at l G (a0 1) 16 (A0 1) p1 (by decide)) gi_U_X9_at (host := "IdleCrimes") (index := 33) (List.mem_of_getElem? (i := 20) rfl) gw_6 gw_7 (n := 2) rfl (by decide +kernel) ⟨rfl, rfl, Nat.le_of_ble_eq_true rfl, Nat.le_of_ble_eq_true rfl⟩ hPD hS [1] [0, 2, 3] [0, 3, 1, 2] (wN := (wX1 G h0 a0 f0 A0)) rfl rfl rfl rfl rfl hl.1 (Nat.le_of_ble_eq_true rfl) dX1_part_10 (fun H locs hPD hS => ?_)
  refine lv_iconst (v := 1) hx hb dX1_part_13 (by decide) ?_
  refine lv_iload_n hx hb dX1_part_14 rfl (lv_at hl 2 rfl) ?_
  refine lv_ishl hx hb dX1_part_15 ?_
  refine lv_iconst (v := (-1)) hx hb dX1_part_16 (by decide) ?_
  refine lv_ixor hx hb dX1_part_17 ?_
  refine lv_iand hx hb dX1_part_18 ?_
  obtain ⟨z_1, ez_1, h⟩ := lvl h
  have kc := kt_X9_put l G (a0 1) 16 (A0 1) p1 ((f9_at 16 (A0 1) p1) &&& ((shl 1 p2) ^^^ (-1))) (by decide)
  rw [← ez_1] at kc
  clear ez_1
  refine kNV (As := [.ref (a0 1), .int p1, .int ((f9_at 16 (A0 1) p1) &&& ((shl 1 p2) ^^^ (-1)))]) (rest := []) C0 (kc) gi_U_X9_put (host := "IdleCrimes") (index := 37) (List.mem_of_getElem? (i := 21) rfl) gw_6 gw_19 (n := 3) rfl (by decide +kernel) ⟨rfl, rfl, Nat.le_of_ble_eq_true rfl, Nat.le_of_ble_eq_true rfl⟩ hPD hS [1] [0, 2, 3] [0, 3, 1, 2] (wN := (wX1 G h0 a0 f0 (updA A0 1 z_1))) rfl rfl rfl rfl rfl hl.1 (Nat.le_of_ble_eq_true rfl) dX1_part_19 (fun H locs hPD hS => ?_)
  obtain ⟨A0_2, eA0_2, h⟩ := lvl h
  have hPD : WD G DA (wX1 G h0 a0 f0 A0_2) H := by rw [eA0_2]; exact hPD
  clear eA0_2
  refine lv_aload_n hx hb dX1_part_22 rfl (lv_at hl 0 rfl) ?_
  refine va_get (D := G.1) (ci := 1) (v := .ref (a0 1)) (C := RX1) (T := TX1) (N := 4) hx hb hts inlX1 hown hK hPD.1 0 rfl rfl 1 (by decide) (hts _ gw_75) (fun _ h9 => h9) rfl dX1_part_23 ?_
  refine lv_iload_n hx hb dX1_part_26 rfl (lv_at hl 2 rfl) ?_
  refine lv_aload_n hx hb dX1_part_27 rfl (lv_at hl 0 rfl) ?_
  refine va_get (D := G.1) (ci := 1) (v := .ref (a0 1)) (C := RX1) (T := TX1) (N := 4) hx hb hts inlX1 hown hK hPD.1 0 rfl rfl 1 (by decide) (hts _ gw_75) (fun _ h9 => h9) rfl dX1_part_28 ?_
  refine lv_iload_n hx hb dX1_part_31 rfl (lv_at hl 2 rfl) ?_
  refine kNI (As := [.ref (a0 1), .int p2]) (rest := [.int p2, .ref (a0 1)]) C0 (kt_X9_at l G (a0 1) 16 (A0_2 1) p2 (by decide)) gi_U_X9_at (host := "IdleCrimes") (index := 33) (List.mem_of_getElem? (i := 20) rfl) gw_6 gw_7 (n := 2) rfl (by decide +kernel) ⟨rfl, rfl, Nat.le_of_ble_eq_true rfl, Nat.le_of_ble_eq_true rfl⟩ hPD hS [1] [0, 2, 3] [0, 3, 1, 2] (wN := (wX1 G h0 a0 f0 A0_2)) rfl rfl rfl rfl rfl hl.1 (Nat.le_of_ble_eq_true rfl) dX1_part_32 (fun H locs hPD hS => ?_)
  refine lv_iconst (v := 1) hx hb dX1_part_35 (by decide) ?_
  refine lv_iload_n hx hb dX1_part_36 rfl (lv_at hl 1 rfl) ?_
  refine lv_ishl hx hb dX1_part_37 ?_
  refine lv_iconst (v := (-1)) hx hb dX1_part_38 (by decide) ?_
  refine lv_ixor hx hb dX1_part_39 ?_
  refine lv_iand hx hb dX1_part_40 ?_
  obtain ⟨z_3, ez_3, h⟩ := lvl h
  have kc := kt_X9_put l G (a0 1) 16 (A0_2 1) p2 ((f9_at 16 (A0_2 1) p2) &&& ((shl 1 p1) ^^^ (-1))) (by decide)
  rw [← ez_3] at kc
  clear ez_3
  refine kNV (As := [.ref (a0 1), .int p2, .int ((f9_at 16 (A0_2 1) p2) &&& ((shl 1 p1) ^^^ (-1)))]) (rest := []) C0 (kc) gi_U_X9_put (host := "IdleCrimes") (index := 37) (List.mem_of_getElem? (i := 21) rfl) gw_6 gw_19 (n := 3) rfl (by decide +kernel) ⟨rfl, rfl, Nat.le_of_ble_eq_true rfl, Nat.le_of_ble_eq_true rfl⟩ hPD hS [1] [0, 2, 3] [0, 3, 1, 2] (wN := (wX1 G h0 a0 f0 (updA A0_2 1 z_3))) rfl rfl rfl rfl rfl hl.1 (Nat.le_of_ble_eq_true rfl) dX1_part_41 (fun H locs hPD hS => ?_)
  obtain ⟨A0_4, eA0_4, h⟩ := lvl h
  have hPD : WD G DA (wX1 G h0 a0 f0 A0_4) H := by rw [eA0_4]; exact hPD
  clear eA0_4
  subst h
  exact eV C0 hPD.1 hPD.2 hS dX1_part_44
abbrev rmX1_around : Room := { frames := 1, cells := 0, slots := 0, locals := 21 }
set_option maxRecDepth 100000 in
set_option maxHeartbeats 4000000 in
theorem kt_X1_around (l : Launch) (G : Gp) (h0 : Nat) (a0 : Nat → Nat) (f0 : Nat → Int32) (A0 : Nat → Nat → Int32) (p1 : Int32) : CtrI l yX1_around cX1_around 2 (some .int) rmX1_around G [.ref h0, .int p1] (wX1 G h0 a0 f0 A0) (f1_around f0 A0 p1) (wX1 G h0 a0 f0 A0) := by
  obtain ⟨res, h⟩ : ∃ res, f1_around f0 A0 p1 = res := ⟨_, rfl⟩
  rw [h]
  refine ctrI_of (cc := cX1_around) (maxL := 2) (ret := (some .int)) (by decide +kernel) rfl (Nat.le_of_ble_eq_true rfl) (fun p e s m below meth c DA C0 hP hD ls hl => ?_)
  have hPD : WD G DA (wX1 G h0 a0 f0 A0) s.heap := ⟨hP, hD⟩
  have hS : va_S DA s.heap s.heap [] := va_S.rf
  have hl : lv_has ls 2 [(0, .ref h0), (1, .int p1)] := hl
  obtain ⟨hx, hb, hml, hown, hts⟩ := C0.1
  have hK := C0.2.2.2.1
  unfold f1_around at h
  refine lv_aload_n hx hb dX1_around_0 rfl (lv_at hl 0 rfl) ?_
  refine va_get (D := G.1) (ci := 1) (v := .ref (a0 1)) (C := RX1) (T := TX1) (N := 4) hx hb hts inlX1 hown hK hPD.1 0 rfl rfl 1 (by decide) (hts _ gw_75) (fun _ h9 => h9) rfl dX1_around_1 ?_
  refine lv_iload_n hx hb dX1_around_4 rfl (lv_at hl 1 rfl) ?_
  refine kNI (As := [.ref (a0 1), .int p1]) (rest := []) C0 (kt_X9_at l G (a0 1) 16 (A0 1) p1 (by decide)) gi_U_X9_at (host := "IdleCrimes") (index := 33) (List.mem_of_getElem? (i := 20) rfl) gw_6 gw_7 (n := 2) rfl (by decide +kernel) ⟨rfl, rfl, Nat.le_of_ble_eq_true rfl, Nat.le_of_ble_eq_true rfl⟩ hPD hS [1] [0, 2, 3] [0, 3, 1, 2] (wN := (wX1 G h0 a0 f0 A0)) rfl rfl rfl rfl rfl hl.1 (Nat.le_of_ble_eq_true rfl) dX1_around_5 (fun H locs hPD hS => ?_)
  refine lv_iconst (v := 1) hx hb dX1_around_8 (by decide) ?_
  refine lv_iload_n hx hb dX1_around_9 rfl (lv_at hl 1 rfl) ?_
  refine lv_ishl hx hb dX1_around_10 ?_
  refine lv_ior hx hb dX1_around_11 ?_
  subst h
  exact eI C0 hPD.1 hPD.2 hS rfl dX1_around_12
abbrev rmX1_aroundAny : Room := { frames := 2, cells := 0, slots := 0, locals := 43 }
set_option maxRecDepth 100000 in
set_option maxHeartbeats 4000000 in
theorem ww_f1_aroundAny_b4  (C0 : Cx cX1_aroundAny 4 (some .int) RX1 p s m args meth c G DA) {h0 : Nat} {a0 : Nat → Nat} {f0 : Nat → Int32} {A0 : Nat → Nat → Int32} {p1 : Int32}  {k4 : Int32 → Int32 → Option (Int32)} {res : Int32}  (hk4 : ∀ (l2 : Int32) (l3 : Int32), k4 l2 l3 = some res → ∀ (H : Heap) (locs : List Loc) (ls : Array Slot), WD G DA (wX1 G h0 a0 f0 A0) H → va_S DA s.heap H locs → lv_has ls 4 [(0, .ref h0), (1, .int p1), (2, .int l2), (3, .int l3)] → W p l e rmX1_aroundAny s m args below meth c H locs 0 0 (MQ below (QI G DA res (wX1 G h0 a0 f0 A0)) args s 0 0 DA) (F0 m 4 ls [])) : ∀ (l2 : Int32) (l3 : Int32), f1_aroundAny_b4 f0 A0 p1  k4 l2 l3 = some res → ∀ (H : Heap) (locs : List Loc) (ls : Array Slot), WD G DA (wX1 G h0 a0 f0 A0) H → va_S DA s.heap H locs → lv_has ls 4 [(0, .ref h0), (1, .int p1), (2, .int l2), (3, .int l3)] → W p l e rmX1_aroundAny s m args below meth c H locs 0 0 (MQ below (QI G DA res (wX1 G h0 a0 f0 A0)) args s 0 0 DA) (F0 m 4 ls []) := by
  obtain ⟨hx, hb, hml, hown, hts⟩ := C0.1
  have hK := C0.2.2.2.1
  intro l2 l3 h _ _ _ hPD hS hl
  unfold f1_aroundAny_b4 at h
  refine lv_iload_n hx hb dX1_aroundAny_4 rfl (lv_at hl 3 rfl) ?_
  refine lv_bipush (v := 16) hx hb dX1_aroundAny_5 (by decide) ?_
  refine lv_icmp_ge (tgt := 32) hx hb dX1_aroundAny_7 (by decide) (fun cc1 => ?_) (fun cc1 => ?_)
  · have h := (if_pos cc1).symm.trans h
    refine lv_iload_n hx hb dX1_aroundAny_32 rfl (lv_at hl 2 rfl) ?_
    obtain rfl := Option.some.inj h
    exact eI C0 hPD.1 hPD.2 hS rfl dX1_aroundAny_33
  · have h := (if_neg cc1).symm.trans h
    refine lv_iload_n hx hb dX1_aroundAny_10 rfl (lv_at hl 1 rfl) ?_
    refine lv_iload_n hx hb dX1_aroundAny_11 rfl (lv_at hl 3 rfl) ?_
    refine kNI (As := [.int p1, .int l3]) (rest := []) C0 (kt_X9_has l G  p1 l3) gi_U_X9_has (host := "IdleCrimes") (index := 29) (List.mem_of_getElem? (i := 9) rfl) gw_6 gw_73 (n := 2) rfl (by decide +kernel) ⟨rfl, rfl, Nat.le_of_ble_eq_true rfl, Nat.le_of_ble_eq_true rfl⟩ hPD hS [] [0, 1, 2, 3] [0, 1, 2, 3] (wN := (wX1 G h0 a0 f0 A0)) rfl rfl rfl rfl rfl hl.1 (Nat.le_of_ble_eq_true rfl) dX1_aroundAny_12 (fun H locs hPD hS => ?_)
    refine lv_if_eq (tgt := 26) hx hb dX1_aroundAny_15 (by decide) (fun cc1 => ?_) (fun cc1 => ?_)
    · have h := (if_pos cc1).symm.trans h
      refine lv_iinc (v := l3 + 1) (lv' := [(3, .int (l3 + 1)), (0, .ref h0), (1, .int p1), (2, .int l2)]) hx hb dX1_aroundAny_26 hl (k := 3) rfl rfl (by decide) rfl (fun ls hl => ?_)
      refine lv_goto (tgt := 4) hx hb dX1_aroundAny_29 (by decide) ?_
      exact hk4 l2 (l3 + 1) h _ _ _ hPD hS (lv_sub hl [1, 2, 3, 0] rfl)
    · have h := (if_neg cc1).symm.trans h
      refine lv_iload_n hx hb dX1_aroundAny_18 rfl (lv_at hl 2 rfl) ?_
      refine lv_aload_n hx hb dX1_aroundAny_19 rfl (lv_at hl 0 rfl) ?_
      refine lv_iload_n hx hb dX1_aroundAny_20 rfl (lv_at hl 3 rfl) ?_
      refine kVI (As := [.int l3]) (rest := [.int l2]) C0 (kt_X1_around l G h0 a0 f0 A0 l3) gi_V_X1_41_X1_around (n := 1) rfl (by decide +kernel) rfl ⟨rfl, rfl, Nat.le_of_ble_eq_true rfl, Nat.le_of_ble_eq_true rfl⟩ hPD hS 0 1 rfl rfl rfl [0, 1, 2, 3] [] [0, 1, 2, 3] (wN := (wX1 G h0 a0 f0 A0)) rfl rfl rfl rfl rfl hl.1 (Nat.le_of_ble_eq_true rfl) dX1_aroundAny_21 (fun H locs hPD hS => ?_)
      refine lv_ior hx hb dX1_aroundAny_24 ?_
      refine lv_istore_n (lv' := [(2, .int (l2 ||| (f1_around f0 A0 l3))), (0, .ref h0), (1, .int p1), (3, .int l3)]) hx hb dX1_aroundAny_25 rfl hl (by decide) rfl (fun ls hl => ?_)
      refine lv_iinc (v := l3 + 1) (lv' := [(3, .int (l3 + 1)), (2, .int (l2 ||| (f1_around f0 A0 l3))), (0, .ref h0), (1, .int p1)]) hx hb dX1_aroundAny_26 hl (k := 3) rfl rfl (by decide) rfl (fun ls hl => ?_)
      refine lv_goto (tgt := 4) hx hb dX1_aroundAny_29 (by decide) ?_
      exact hk4 (l2 ||| (f1_around f0 A0 l3)) (l3 + 1) h _ _ _ hPD hS (lv_sub hl [2, 3, 1, 0] rfl)
set_option maxRecDepth 100000 in
set_option maxHeartbeats 4000000 in
theorem ww_f1_aroundAny_l4  (C0 : Cx cX1_aroundAny 4 (some .int) RX1 p s m args meth c G DA) {h0 : Nat} {a0 : Nat → Nat} {f0 : Nat → Int32} {A0 : Nat → Nat → Int32} {p1 : Int32}   {res : Int32}  : ∀ (n : Nat) (l2 : Int32) (l3 : Int32), f1_aroundAny_l4 f0 A0 p1  n l2 l3 = some res → ∀ (H : Heap) (locs : List Loc) (ls : Array Slot), WD G DA (wX1 G h0 a0 f0 A0) H → va_S DA s.heap H locs → lv_has ls 4 [(0, .ref h0), (1, .int p1), (2, .int l2), (3, .int l3)] → W p l e rmX1_aroundAny s m args below meth c H locs 0 0 (MQ below (QI G DA res (wX1 G h0 a0 f0 A0)) args s 0 0 DA) (F0 m 4 ls []) := by
  intro n
  induction n with
  | zero => intro l2 l3 h; cases h
  | succ n ih => intro l2 l3 h; exact ww_f1_aroundAny_b4 C0  ih l2 l3 h
set_option maxRecDepth 100000 in
set_option maxHeartbeats 4000000 in
theorem kt_X1_aroundAny (l : Launch) (G : Gp) (h0 : Nat) (a0 : Nat → Nat) (f0 : Nat → Int32) (A0 : Nat → Nat → Int32) (p1 : Int32) : ∀ {r : Int32}, f1_aroundAny f0 A0 p1 = some r → CtrI l yX1_aroundAny cX1_aroundAny 4 (some .int) rmX1_aroundAny G [.ref h0, .int p1] (wX1 G h0 a0 f0 A0) r (wX1 G h0 a0 f0 A0) := by
  intro res h
  refine ctrI_of (cc := cX1_aroundAny) (maxL := 4) (ret := (some .int)) (by decide +kernel) rfl (Nat.le_of_ble_eq_true rfl) (fun p e s m below meth c DA C0 hP hD ls hl => ?_)
  have hPD : WD G DA (wX1 G h0 a0 f0 A0) s.heap := ⟨hP, hD⟩
  have hS : va_S DA s.heap s.heap [] := va_S.rf
  have hl : lv_has ls 4 [(0, .ref h0), (1, .int p1)] := hl
  obtain ⟨hx, hb, hml, hown, hts⟩ := C0.1
  have hK := C0.2.2.2.1
  unfold f1_aroundAny at h
  refine lv_iconst (v := 0) hx hb dX1_aroundAny_0 (by decide) ?_
  refine lv_istore_n (lv' := [(2, .int 0), (0, .ref h0), (1, .int p1)]) hx hb dX1_aroundAny_1 rfl hl (by decide) rfl (fun ls hl => ?_)
  refine lv_iconst (v := 0) hx hb dX1_aroundAny_2 (by decide) ?_
  refine lv_istore_n (lv' := [(3, .int 0), (2, .int 0), (0, .ref h0), (1, .int p1)]) hx hb dX1_aroundAny_3 rfl hl (by decide) rfl (fun ls hl => ?_)
  exact ww_f1_aroundAny_l4 C0 NF 0 0 h _ _ _ hPD hS (lv_sub hl [2, 3, 1, 0] rfl)
abbrev rmX1_measure : Room := { frames := 3, cells := 0, slots := 0, locals := 66 }
set_option maxRecDepth 100000 in
set_option maxHeartbeats 4000000 in
theorem ww_f1_measure_b47  (C0 : Cx cX1_measure 6 none RX1 p s m args meth c G DA) {h0 : Nat} {a0 : Nat → Nat} {f0 : Nat → Int32} {p1 : Int32}  {k33 : (Nat → Nat → Int32) → Int32 → Int32 → Int32 → Option ((Nat → Nat → Int32))} {k47 : (Nat → Nat → Int32) → Int32 → Int32 → Int32 → Int32 → Option ((Nat → Nat → Int32))} {res : (Nat → Nat → Int32)} (hk33 : ∀ (A0 : Nat → Nat → Int32) (l2 : Int32) (l3 : Int32) (l4 : Int32), k33 A0 l2 l3 l4 = some res → ∀ (H : Heap) (locs : List Loc) (ls : Array Slot), WD G DA (wX1 G h0 a0 f0 A0) H → va_S DA s.heap H locs → lv_has ls 6 [(0, .ref h0), (1, .int p1), (2, .int l2), (3, .int l3), (4, .int l4)] → W p l e rmX1_measure s m args below meth c H locs 0 0 (MQ below (QV G DA (wX1 G h0 a0 f0 res)) args s 0 0 DA) (F0 m 33 ls [])) (hk47 : ∀ (A0 : Nat → Nat → Int32) (l2 : Int32) (l3 : Int32) (l4 : Int32) (l5 : Int32), k47 A0 l2 l3 l4 l5 = some res → ∀ (H : Heap) (locs : List Loc) (ls : Array Slot), WD G DA (wX1 G h0 a0 f0 A0) H → va_S DA s.heap H locs → lv_has ls 6 [(0, .ref h0), (1, .int p1), (2, .int l2), (3, .int l3), (4, .int l4), (5, .int l5)] → W p l e rmX1_measure s m args below meth c H locs 0 0 (MQ below (QV G DA (wX1 G h0 a0 f0 res)) args s 0 0 DA) (F0 m 47 ls [])) : ∀ (A0 : Nat → Nat → Int32) (l2 : Int32) (l3 : Int32) (l4 : Int32) (l5 : Int32), f1_measure_b47 f0 p1 k33 k47 A0 l2 l3 l4 l5 = some res → ∀ (H : Heap) (locs : List Loc) (ls : Array Slot), WD G DA (wX1 G h0 a0 f0 A0) H → va_S DA s.heap H locs → lv_has ls 6 [(0, .ref h0), (1, .int p1), (2, .int l2), (3, .int l3), (4, .int l4), (5, .int l5)] → W p l e rmX1_measure s m args below meth c H locs 0 0 (MQ below (QV G DA (wX1 G h0 a0 f0 res)) args s 0 0 DA) (F0 m 47 ls []) := by
  obtain ⟨hx, hb, hml, hown, hts⟩ := C0.1
  have hK := C0.2.2.2.1
  intro A0 l2 l3 l4 l5 h _ _ _ hPD hS hl
  unfold f1_measure_b47 at h
  refine lv_iload hx hb dX1_measure_47 (lv_at hl 5 rfl) ?_
  refine lv_bipush (v := 16) hx hb dX1_measure_49 (by decide) ?_
  refine lv_icmp_ge (tgt := 80) hx hb dX1_measure_51 (by decide) (fun cc1 => ?_) (fun cc1 => ?_)
  · have h := (if_pos cc1).symm.trans h
    refine lv_aload_n hx hb dX1_measure_80 rfl (lv_at hl 0 rfl) ?_
    refine lv_iload_n hx hb dX1_measure_81 rfl (lv_at hl 3 rfl) ?_
    obtain ⟨q_1, hq_1, h⟩ := ob2 h
    refine kVI (As := [.int l3]) (rest := []) C0 (kt_X1_aroundAny l G h0 a0 f0 A0 l3 hq_1) gi_V_X1_45_X1_aroundAny (n := 1) rfl (by decide +kernel) rfl ⟨rfl, rfl, Nat.le_of_ble_eq_true rfl, Nat.le_of_ble_eq_true rfl⟩ hPD hS 0 1 rfl rfl rfl [0, 1, 2, 3] [] [0, 1, 2, 3] (wN := (wX1 G h0 a0 f0 A0)) rfl rfl rfl rfl rfl hl.1 (Nat.le_of_ble_eq_true rfl) dX1_measure_82 (fun H locs hPD hS => ?_)
    refine lv_iload_n hx hb dX1_measure_85 rfl (lv_at hl 2 rfl) ?_
    refine lv_iconst (v := (-1)) hx hb dX1_measure_86 (by decide) ?_
    refine lv_ixor hx hb dX1_measure_87 ?_
    refine lv_iand hx hb dX1_measure_88 ?_
    refine lv_istore_n (lv' := [(3, .int (q_1 &&& (l2 ^^^ (-1)))), (0, .ref h0), (1, .int p1), (2, .int l2), (4, .int l4), (5, .int l5)]) hx hb dX1_measure_89 rfl hl (by decide) rfl (fun ls hl => ?_)
    refine lv_iload_n hx hb dX1_measure_90 rfl (lv_at hl 3 rfl) ?_
    refine lv_iload_n hx hb dX1_measure_91 rfl (lv_at hl 0 rfl) ?_
    refine lv_ior hx hb dX1_measure_92 ?_
    refine lv_istore_n (lv' := [(2, .int (l2 ||| (q_1 &&& (l2 ^^^ (-1))))), (3, .int (q_1 &&& (l2 ^^^ (-1)))), (0, .ref h0), (1, .int p1), (4, .int l4), (5, .int l5)]) hx hb dX1_measure_93 rfl hl (by decide) rfl (fun ls hl => ?_)
    refine lv_iinc (v := l4 + 1) (lv' := [(4, .int (l4 + 1)), (2, .int (l2 ||| (q_1 &&& (l2 ^^^ (-1))))), (3, .int (q_1 &&& (l2 ^^^ (-1)))), (0, .ref h0), (1, .int p1), (5, .int l5)]) hx hb dX1_measure_94 hl (k := 4) rfl rfl (by decide) rfl (fun ls hl => ?_)
    refine lv_goto (tgt := 33) hx hb dX1_measure_97 (by decide) ?_
    exact hk33 A0 (l2 ||| (q_1 &&& (l2 ^^^ (-1)))) (q_1 &&& (l2 ^^^ (-1))) (l4 + 1) h _ _ _ hPD hS (lv_sub hl [3, 4, 1, 2, 0] rfl)
  · have h := (if_neg cc1).symm.trans h
    refine lv_iload_n hx hb dX1_measure_54 rfl (lv_at hl 3 rfl) ?_
    refine lv_iload hx hb dX1_measure_55 (lv_at hl 5 rfl) ?_
    refine kNI (As := [.int l3, .int l5]) (rest := []) C0 (kt_X9_has l G  l3 l5) gi_U_X9_has (host := "IdleCrimes") (index := 29) (List.mem_of_getElem? (i := 9) rfl) gw_6 gw_73 (n := 2) rfl (by decide +kernel) ⟨rfl, rfl, Nat.le_of_ble_eq_true rfl, Nat.le_of_ble_eq_true rfl⟩ hPD hS [] [0, 1, 2, 3] [0, 1, 2, 3] (wN := (wX1 G h0 a0 f0 A0)) rfl rfl rfl rfl rfl hl.1 (Nat.le_of_ble_eq_true rfl) dX1_measure_57 (fun H locs hPD hS => ?_)
    refine lv_if_eq (tgt := 74) hx hb dX1_measure_60 (by decide) (fun cc1 => ?_) (fun cc1 => ?_)
    · have h := (if_pos cc1).symm.trans h
      refine lv_iinc (v := l5 + 1) (lv' := [(5, .int (l5 + 1)), (0, .ref h0), (1, .int p1), (2, .int l2), (3, .int l3), (4, .int l4)]) hx hb dX1_measure_74 hl (k := 5) rfl rfl (by decide) rfl (fun ls hl => ?_)
      refine lv_goto (tgt := 47) hx hb dX1_measure_77 (by decide) ?_
      exact hk47 A0 l2 l3 l4 (l5 + 1) h _ _ _ hPD hS (lv_sub hl [1, 2, 3, 4, 5, 0] rfl)
    · have h := (if_neg cc1).symm.trans h
      refine lv_aload_n hx hb dX1_measure_63 rfl (lv_at hl 0 rfl) ?_
      refine va_get (D := G.1) (ci := 1) (v := .ref (a0 2)) (C := RX1) (T := TX1) (N := 4) hx hb hts inlX1 hown hK hPD.1 0 rfl rfl 2 (by decide) (hts _ gw_81) (fun _ h9 => h9) rfl dX1_measure_64 ?_
      refine lv_iload hx hb dX1_measure_67 (lv_at hl 5 rfl) ?_
      refine lv_iload hx hb dX1_measure_69 (lv_at hl 4 rfl) ?_
      obtain ⟨z_2, ez_2, h⟩ := lvl h
      have kc := kt_X9_put l G (a0 2) 16 (A0 2) l5 l4 (by decide)
      rw [← ez_2] at kc
      clear ez_2
      refine kNV (As := [.ref (a0 2), .int l5, .int l4]) (rest := []) C0 (kc) gi_U_X9_put (host := "IdleCrimes") (index := 37) (List.mem_of_getElem? (i := 21) rfl) gw_6 gw_19 (n := 3) rfl (by decide +kernel) ⟨rfl, rfl, Nat.le_of_ble_eq_true rfl, Nat.le_of_ble_eq_true rfl⟩ hPD hS [2] [0, 1, 3] [0, 1, 3, 2] (wN := (wX1 G h0 a0 f0 (updA A0 2 z_2))) rfl rfl rfl rfl rfl hl.1 (Nat.le_of_ble_eq_true rfl) dX1_measure_71 (fun H locs hPD hS => ?_)
      obtain ⟨A0_3, eA0_3, h⟩ := lvl h
      have hPD : WD G DA (wX1 G h0 a0 f0 A0_3) H := by rw [eA0_3]; exact hPD
      clear eA0_3
      refine lv_iinc (v := l5 + 1) (lv' := [(5, .int (l5 + 1)), (0, .ref h0), (1, .int p1), (2, .int l2), (3, .int l3), (4, .int l4)]) hx hb dX1_measure_74 hl (k := 5) rfl rfl (by decide) rfl (fun ls hl => ?_)
      refine lv_goto (tgt := 47) hx hb dX1_measure_77 (by decide) ?_
      exact hk47 A0_3 l2 l3 l4 (l5 + 1) h _ _ _ hPD hS (lv_sub hl [1, 2, 3, 4, 5, 0] rfl)
set_option maxRecDepth 100000 in
set_option maxHeartbeats 4000000 in
theorem ww_f1_measure_l47  (C0 : Cx cX1_measure 6 none RX1 p s m args meth c G DA) {h0 : Nat} {a0 : Nat → Nat} {f0 : Nat → Int32} {p1 : Int32}  {k33 : (Nat → Nat → Int32) → Int32 → Int32 → Int32 → Option ((Nat → Nat → Int32))} {res : (Nat → Nat → Int32)} (hk33 : ∀ (A0 : Nat → Nat → Int32) (l2 : Int32) (l3 : Int32) (l4 : Int32), k33 A0 l2 l3 l4 = some res → ∀ (H : Heap) (locs : List Loc) (ls : Array Slot), WD G DA (wX1 G h0 a0 f0 A0) H → va_S DA s.heap H locs → lv_has ls 6 [(0, .ref h0), (1, .int p1), (2, .int l2), (3, .int l3), (4, .int l4)] → W p l e rmX1_measure s m args below meth c H locs 0 0 (MQ below (QV G DA (wX1 G h0 a0 f0 res)) args s 0 0 DA) (F0 m 33 ls [])) : ∀ (n : Nat) (A0 : Nat → Nat → Int32) (l2 : Int32) (l3 : Int32) (l4 : Int32) (l5 : Int32), f1_measure_l47 f0 p1 k33 n A0 l2 l3 l4 l5 = some res → ∀ (H : Heap) (locs : List Loc) (ls : Array Slot), WD G DA (wX1 G h0 a0 f0 A0) H → va_S DA s.heap H locs → lv_has ls 6 [(0, .ref h0), (1, .int p1), (2, .int l2), (3, .int l3), (4, .int l4), (5, .int l5)] → W p l e rmX1_measure s m args below meth c H locs 0 0 (MQ below (QV G DA (wX1 G h0 a0 f0 res)) args s 0 0 DA) (F0 m 47 ls []) := by
  intro n
  induction n with
  | zero => intro A0 l2 l3 l4 l5 h; cases h
  | succ n ih => intro A0 l2 l3 l4 l5 h; exact ww_f1_measure_b47 C0 hk33 ih A0 l2 l3 l4 l5 h
set_option maxRecDepth 100000 in
set_option maxHeartbeats 4000000 in
theorem ww_f1_measure_b33  (C0 : Cx cX1_measure 6 none RX1 p s m args meth c G DA) {h0 : Nat} {a0 : Nat → Nat} {f0 : Nat → Int32} {p1 : Int32}  {k33 : (Nat → Nat → Int32) → Int32 → Int32 → Int32 → Option ((Nat → Nat → Int32))} {res : (Nat → Nat → Int32)}  (hk33 : ∀ (A0 : Nat → Nat → Int32) (l2 : Int32) (l3 : Int32) (l4 : Int32), k33 A0 l2 l3 l4 = some res → ∀ (H : Heap) (locs : List Loc) (ls : Array Slot), WD G DA (wX1 G h0 a0 f0 A0) H → va_S DA s.heap H locs → lv_has ls 6 [(0, .ref h0), (1, .int p1), (2, .int l2), (3, .int l3), (4, .int l4)] → W p l e rmX1_measure s m args below meth c H locs 0 0 (MQ below (QV G DA (wX1 G h0 a0 f0 res)) args s 0 0 DA) (F0 m 33 ls [])) : ∀ (A0 : Nat → Nat → Int32) (l2 : Int32) (l3 : Int32) (l4 : Int32), f1_measure_b33 f0 p1  k33 A0 l2 l3 l4 = some res → ∀ (H : Heap) (locs : List Loc) (ls : Array Slot), WD G DA (wX1 G h0 a0 f0 A0) H → va_S DA s.heap H locs → lv_has ls 6 [(0, .ref h0), (1, .int p1), (2, .int l2), (3, .int l3), (4, .int l4)] → W p l e rmX1_measure s m args below meth c H locs 0 0 (MQ below (QV G DA (wX1 G h0 a0 f0 res)) args s 0 0 DA) (F0 m 33 ls []) := by
  obtain ⟨hx, hb, hml, hown, hts⟩ := C0.1
  have hK := C0.2.2.2.1
  intro A0 l2 l3 l4 h _ _ _ hPD hS hl
  unfold f1_measure_b33 at h
  refine lv_iload hx hb dX1_measure_33 (lv_at hl 4 rfl) ?_
  refine lv_bipush (v := 16) hx hb dX1_measure_35 (by decide) ?_
  refine lv_icmp_ge (tgt := 100) hx hb dX1_measure_37 (by decide) (fun cc1 => ?_) (fun cc1 => ?_)
  · have h := (if_pos cc1).symm.trans h
    obtain rfl := Option.some.inj h
    exact eV C0 hPD.1 hPD.2 hS dX1_measure_100
  · have h := (if_neg cc1).symm.trans h
    refine lv_iload_n hx hb dX1_measure_40 rfl (lv_at hl 3 rfl) ?_
    refine lv_if_eq (tgt := 100) hx hb dX1_measure_41 (by decide) (fun cc1 => ?_) (fun cc1 => ?_)
    · have h := (if_pos cc1).symm.trans h
      obtain rfl := Option.some.inj h
      exact eV C0 hPD.1 hPD.2 hS dX1_measure_100
    · have h := (if_neg cc1).symm.trans h
      refine lv_iconst (v := 0) hx hb dX1_measure_44 (by decide) ?_
      refine lv_istore (lv' := [(5, .int 0), (0, .ref h0), (1, .int p1), (2, .int l2), (3, .int l3), (4, .int l4)]) hx hb dX1_measure_45 hl (by decide) rfl (fun ls hl => ?_)
      exact ww_f1_measure_l47 C0 hk33 NF A0 l2 l3 l4 0 h _ _ _ hPD hS (lv_sub hl [1, 2, 3, 4, 5, 0] rfl)
set_option maxRecDepth 100000 in
set_option maxHeartbeats 4000000 in
theorem ww_f1_measure_l33  (C0 : Cx cX1_measure 6 none RX1 p s m args meth c G DA) {h0 : Nat} {a0 : Nat → Nat} {f0 : Nat → Int32} {p1 : Int32}   {res : (Nat → Nat → Int32)}  : ∀ (n : Nat) (A0 : Nat → Nat → Int32) (l2 : Int32) (l3 : Int32) (l4 : Int32), f1_measure_l33 f0 p1  n A0 l2 l3 l4 = some res → ∀ (H : Heap) (locs : List Loc) (ls : Array Slot), WD G DA (wX1 G h0 a0 f0 A0) H → va_S DA s.heap H locs → lv_has ls 6 [(0, .ref h0), (1, .int p1), (2, .int l2), (3, .int l3), (4, .int l4)] → W p l e rmX1_measure s m args below meth c H locs 0 0 (MQ below (QV G DA (wX1 G h0 a0 f0 res)) args s 0 0 DA) (F0 m 33 ls []) := by
  intro n
  induction n with
  | zero => intro A0 l2 l3 l4 h; cases h
  | succ n ih => intro A0 l2 l3 l4 h; exact ww_f1_measure_b33 C0  ih A0 l2 l3 l4 h
set_option maxRecDepth 100000 in
set_option maxHeartbeats 4000000 in
theorem ww_f1_measure_b2  (C0 : Cx cX1_measure 6 none RX1 p s m args meth c G DA) {h0 : Nat} {a0 : Nat → Nat} {f0 : Nat → Int32} {p1 : Int32}  {k2 : (Nat → Nat → Int32) → Int32 → Option ((Nat → Nat → Int32))} {res : (Nat → Nat → Int32)}  (hk2 : ∀ (A0 : Nat → Nat → Int32) (l2 : Int32), k2 A0 l2 = some res → ∀ (H : Heap) (locs : List Loc) (ls : Array Slot), WD G DA (wX1 G h0 a0 f0 A0) H → va_S DA s.heap H locs → lv_has ls 6 [(0, .ref h0), (1, .int p1), (2, .int l2)] → W p l e rmX1_measure s m args below meth c H locs 0 0 (MQ below (QV G DA (wX1 G h0 a0 f0 res)) args s 0 0 DA) (F0 m 2 ls [])) : ∀ (A0 : Nat → Nat → Int32) (l2 : Int32), f1_measure_b2 f0 p1  k2 A0 l2 = some res → ∀ (H : Heap) (locs : List Loc) (ls : Array Slot), WD G DA (wX1 G h0 a0 f0 A0) H → va_S DA s.heap H locs → lv_has ls 6 [(0, .ref h0), (1, .int p1), (2, .int l2)] → W p l e rmX1_measure s m args below meth c H locs 0 0 (MQ below (QV G DA (wX1 G h0 a0 f0 res)) args s 0 0 DA) (F0 m 2 ls []) := by
  obtain ⟨hx, hb, hml, hown, hts⟩ := C0.1
  have hK := C0.2.2.2.1
  intro A0 l2 h _ _ _ hPD hS hl
  unfold f1_measure_b2 at h
  refine lv_iload_n hx hb dX1_measure_2 rfl (lv_at hl 2 rfl) ?_
  refine lv_aload_n hx hb dX1_measure_3 rfl (lv_at hl 0 rfl) ?_
  refine va_get (D := G.1) (ci := 1) (v := .ref (a0 2)) (C := RX1) (T := TX1) (N := 4) hx hb hts inlX1 hown hK hPD.1 0 rfl rfl 2 (by decide) (hts _ gw_81) (fun _ h9 => h9) rfl dX1_measure_4 ?_
  refine va_alen (v := 16) hx hb hK hPD.1 2 1 rfl rfl rfl dX1_measure_7 ?_
  refine lv_icmp_ge (tgt := 24) hx hb dX1_measure_8 (by decide) (fun cc1 => ?_) (fun cc1 => ?_)
  · have h := (if_pos cc1).symm.trans h
    refine lv_iconst (v := 1) hx hb dX1_measure_24 (by decide) ?_
    refine lv_iload_n hx hb dX1_measure_25 rfl (lv_at hl 1 rfl) ?_
    refine lv_ishl hx hb dX1_measure_26 ?_
    refine lv_istore_n (lv' := [(2, .int (shl 1 p1)), (0, .ref h0), (1, .int p1)]) hx hb dX1_measure_27 rfl hl (by decide) rfl (fun ls hl => ?_)
    refine lv_iload_n hx hb dX1_measure_28 rfl (lv_at hl 0 rfl) ?_
    refine lv_istore_n (lv' := [(3, .int (shl 1 p1)), (2, .int (shl 1 p1)), (0, .ref h0), (1, .int p1)]) hx hb dX1_measure_29 rfl hl (by decide) rfl (fun ls hl => ?_)
    refine lv_iconst (v := 0) hx hb dX1_measure_30 (by decide) ?_
    refine lv_istore (lv' := [(4, .int 0), (3, .int (shl 1 p1)), (2, .int (shl 1 p1)), (0, .ref h0), (1, .int p1)]) hx hb dX1_measure_31 hl (by decide) rfl (fun ls hl => ?_)
    exact ww_f1_measure_l33 C0 NF A0 (shl 1 p1) (shl 1 p1) 0 h _ _ _ hPD hS (lv_sub hl [3, 4, 2, 1, 0] rfl)
  · have h := (if_neg cc1).symm.trans h
    refine lv_aload_n hx hb dX1_measure_11 rfl (lv_at hl 0 rfl) ?_
    refine va_get (D := G.1) (ci := 1) (v := .ref (a0 2)) (C := RX1) (T := TX1) (N := 4) hx hb hts inlX1 hown hK hPD.1 0 rfl rfl 2 (by decide) (hts _ gw_81) (fun _ h9 => h9) rfl dX1_measure_12 ?_
    refine lv_iload_n hx hb dX1_measure_15 rfl (lv_at hl 2 rfl) ?_
    refine lv_iconst (v := (-1)) hx hb dX1_measure_16 (by decide) ?_
    obtain ⟨hi_4, h⟩ := ob h
    refine va_iast hx hb hK hPD.1 hPD.2 hS 2 1 rfl rfl hi_4 dX1_measure_17 (fun H locs hP hD hS => ?_)
    obtain ⟨A0_5, eA0_5, h⟩ := lvl h
    have hPD : WD G DA (wX1 G h0 a0 f0 A0_5) H := by rw [eA0_5]; exact ⟨hP, hD⟩
    clear eA0_5 hP hD
    refine lv_iinc (v := l2 + 1) (lv' := [(2, .int (l2 + 1)), (0, .ref h0), (1, .int p1)]) hx hb dX1_measure_18 hl (k := 2) rfl rfl (by decide) rfl (fun ls hl => ?_)
    refine lv_goto (tgt := 2) hx hb dX1_measure_21 (by decide) ?_
    exact hk2 A0_5 (l2 + 1) h _ _ _ hPD hS (lv_sub hl [1, 2, 0] rfl)
set_option maxRecDepth 100000 in
set_option maxHeartbeats 4000000 in
theorem ww_f1_measure_l2  (C0 : Cx cX1_measure 6 none RX1 p s m args meth c G DA) {h0 : Nat} {a0 : Nat → Nat} {f0 : Nat → Int32} {p1 : Int32}   {res : (Nat → Nat → Int32)}  : ∀ (n : Nat) (A0 : Nat → Nat → Int32) (l2 : Int32), f1_measure_l2 f0 p1  n A0 l2 = some res → ∀ (H : Heap) (locs : List Loc) (ls : Array Slot), WD G DA (wX1 G h0 a0 f0 A0) H → va_S DA s.heap H locs → lv_has ls 6 [(0, .ref h0), (1, .int p1), (2, .int l2)] → W p l e rmX1_measure s m args below meth c H locs 0 0 (MQ below (QV G DA (wX1 G h0 a0 f0 res)) args s 0 0 DA) (F0 m 2 ls []) := by
  intro n
  induction n with
  | zero => intro A0 l2 h; cases h
  | succ n ih => intro A0 l2 h; exact ww_f1_measure_b2 C0  ih A0 l2 h
set_option maxRecDepth 100000 in
set_option maxHeartbeats 4000000 in
theorem kt_X1_measure (l : Launch) (G : Gp) (h0 : Nat) (a0 : Nat → Nat) (f0 : Nat → Int32) (A0 : Nat → Nat → Int32) (p1 : Int32) : ∀ {r : (Nat → Nat → Int32)}, f1_measure f0 A0 p1 = some r → CtrV l yX1_measure cX1_measure 6 none rmX1_measure G [.ref h0, .int p1] (wX1 G h0 a0 f0 A0) (wX1 G h0 a0 f0 r) := by
  intro res h
  refine ctrV_of (cc := cX1_measure) (maxL := 6) (ret := none) (by decide +kernel) rfl (Nat.le_of_ble_eq_true rfl) (fun p e s m below meth c DA C0 hP hD ls hl => ?_)
  have hPD : WD G DA (wX1 G h0 a0 f0 A0) s.heap := ⟨hP, hD⟩
  have hS : va_S DA s.heap s.heap [] := va_S.rf
  have hl : lv_has ls 6 [(0, .ref h0), (1, .int p1)] := hl
  obtain ⟨hx, hb, hml, hown, hts⟩ := C0.1
  have hK := C0.2.2.2.1
  unfold f1_measure at h
  refine lv_iconst (v := 0) hx hb dX1_measure_0 (by decide) ?_
  refine lv_istore_n (lv' := [(2, .int 0), (0, .ref h0), (1, .int p1)]) hx hb dX1_measure_1 rfl hl (by decide) rfl (fun ls hl => ?_)
  exact ww_f1_measure_l2 C0 NF A0 0 h _ _ _ hPD hS (lv_sub hl [1, 2, 0] rfl)
abbrev rmX1_stepsTo : Room := { frames := 1, cells := 0, slots := 0, locals := 22 }
set_option maxRecDepth 100000 in
set_option maxHeartbeats 4000000 in
theorem kt_X1_stepsTo (l : Launch) (G : Gp) (h0 : Nat) (a0 : Nat → Nat) (f0 : Nat → Int32) (A0 : Nat → Nat → Int32) (p1 : Int32) : CtrI l yX1_stepsTo cX1_stepsTo 2 (some .int) rmX1_stepsTo G [.ref h0, .int p1] (wX1 G h0 a0 f0 A0) (f1_stepsTo f0 A0 p1) (wX1 G h0 a0 f0 A0) := by
  obtain ⟨res, h⟩ : ∃ res, f1_stepsTo f0 A0 p1 = res := ⟨_, rfl⟩
  rw [h]
  refine ctrI_of (cc := cX1_stepsTo) (maxL := 2) (ret := (some .int)) (by decide +kernel) rfl (Nat.le_of_ble_eq_true rfl) (fun p e s m below meth c DA C0 hP hD ls hl => ?_)
  have hPD : WD G DA (wX1 G h0 a0 f0 A0) s.heap := ⟨hP, hD⟩
  have hS : va_S DA s.heap s.heap [] := va_S.rf
  have hl : lv_has ls 2 [(0, .ref h0), (1, .int p1)] := hl
  obtain ⟨hx, hb, hml, hown, hts⟩ := C0.1
  have hK := C0.2.2.2.1
  unfold f1_stepsTo at h
  refine lv_iload_n hx hb dX1_stepsTo_0 rfl (lv_at hl 1 rfl) ?_
  refine lv_iconst (v := 0) hx hb dX1_stepsTo_1 (by decide) ?_
  refine lv_bipush (v := 15) hx hb dX1_stepsTo_2 (by decide) ?_
  refine kNI (As := [.int p1, .int 0, .int 15]) (rest := []) C0 (kt_X9_within l G  p1 0 15) gi_U_X9_within (host := "IdleCrimes") (index := 25) (List.mem_of_getElem? (i := 8) rfl) gw_6 gw_25 (n := 3) rfl (by decide +kernel) ⟨rfl, rfl, Nat.le_of_ble_eq_true rfl, Nat.le_of_ble_eq_true rfl⟩ hPD hS [] [0, 1, 2, 3] [0, 1, 2, 3] (wN := (wX1 G h0 a0 f0 A0)) rfl rfl rfl rfl rfl hl.1 (Nat.le_of_ble_eq_true rfl) dX1_stepsTo_4 (fun H locs hPD hS => ?_)
  refine lv_if_eq (tgt := 21) hx hb dX1_stepsTo_7 (by decide) (fun cc1 => ?_) (fun cc1 => ?_)
  · have h := (if_pos cc1).symm.trans h
    refine lv_iconst (v := (-1)) hx hb dX1_stepsTo_21 (by decide) ?_
    subst h
    exact eI C0 hPD.1 hPD.2 hS rfl dX1_stepsTo_22
  · have h := (if_neg cc1).symm.trans h
    refine lv_aload_n hx hb dX1_stepsTo_10 rfl (lv_at hl 0 rfl) ?_
    refine va_get (D := G.1) (ci := 1) (v := .ref (a0 2)) (C := RX1) (T := TX1) (N := 4) hx hb hts inlX1 hown hK hPD.1 0 rfl rfl 2 (by decide) (hts _ gw_81) (fun _ h9 => h9) rfl dX1_stepsTo_11 ?_
    refine lv_iload_n hx hb dX1_stepsTo_14 rfl (lv_at hl 1 rfl) ?_
    refine kNI (As := [.ref (a0 2), .int p1]) (rest := []) C0 (kt_X9_at l G (a0 2) 16 (A0 2) p1 (by decide)) gi_U_X9_at (host := "IdleCrimes") (index := 33) (List.mem_of_getElem? (i := 20) rfl) gw_6 gw_7 (n := 2) rfl (by decide +kernel) ⟨rfl, rfl, Nat.le_of_ble_eq_true rfl, Nat.le_of_ble_eq_true rfl⟩ hPD hS [2] [0, 1, 3] [0, 1, 3, 2] (wN := (wX1 G h0 a0 f0 A0)) rfl rfl rfl rfl rfl hl.1 (Nat.le_of_ble_eq_true rfl) dX1_stepsTo_15 (fun H locs hPD hS => ?_)
    refine lv_goto (tgt := 22) hx hb dX1_stepsTo_18 (by decide) ?_
    subst h
    exact eI C0 hPD.1 hPD.2 hS rfl dX1_stepsTo_22
abbrev rmX1_lowestCloser : Room := { frames := 2, cells := 0, slots := 0, locals := 43 }
set_option maxRecDepth 100000 in
set_option maxHeartbeats 4000000 in
theorem ww_f1_lowestCloser_b2  (C0 : Cx cX1_lowestCloser 3 (some .int) RX1 p s m args meth c G DA) {h0 : Nat} {a0 : Nat → Nat} {f0 : Nat → Int32} {A0 : Nat → Nat → Int32} {p1 : Int32}  {k2 : Int32 → Option (Int32)} {res : Int32}  (hk2 : ∀ (l2 : Int32), k2 l2 = some res → ∀ (H : Heap) (locs : List Loc) (ls : Array Slot), WD G DA (wX1 G h0 a0 f0 A0) H → va_S DA s.heap H locs → lv_has ls 3 [(0, .ref h0), (1, .int p1), (2, .int l2)] → W p l e rmX1_lowestCloser s m args below meth c H locs 0 0 (MQ below (QI G DA res (wX1 G h0 a0 f0 A0)) args s 0 0 DA) (F0 m 2 ls [])) : ∀ (l2 : Int32), f1_lowestCloser_b2 f0 A0 p1  k2 l2 = some res → ∀ (H : Heap) (locs : List Loc) (ls : Array Slot), WD G DA (wX1 G h0 a0 f0 A0) H → va_S DA s.heap H locs → lv_has ls 3 [(0, .ref h0), (1, .int p1), (2, .int l2)] → W p l e rmX1_lowestCloser s m args below meth c H locs 0 0 (MQ below (QI G DA res (wX1 G h0 a0 f0 A0)) args s 0 0 DA) (F0 m 2 ls []) := by
  obtain ⟨hx, hb, hml, hown, hts⟩ := C0.1
  have hK := C0.2.2.2.1
  intro l2 h _ _ _ hPD hS hl
  unfold f1_lowestCloser_b2 at h
  refine lv_iload_n hx hb dX1_lowestCloser_2 rfl (lv_at hl 2 rfl) ?_
  refine lv_bipush (v := 16) hx hb dX1_lowestCloser_3 (by decide) ?_
  refine lv_icmp_ge (tgt := 46) hx hb dX1_lowestCloser_5 (by decide) (fun cc1 => ?_) (fun cc1 => ?_)
  · have h := (if_pos cc1).symm.trans h
    refine lv_iload_n hx hb dX1_lowestCloser_46 rfl (lv_at hl 1 rfl) ?_
    obtain rfl := Option.some.inj h
    exact eI C0 hPD.1 hPD.2 hS rfl dX1_lowestCloser_47
  · have h := (if_neg cc1).symm.trans h
    refine lv_aload_n hx hb dX1_lowestCloser_8 rfl (lv_at hl 0 rfl) ?_
    refine va_get (D := G.1) (ci := 1) (v := .ref (a0 1)) (C := RX1) (T := TX1) (N := 4) hx hb hts inlX1 hown hK hPD.1 0 rfl rfl 1 (by decide) (hts _ gw_75) (fun _ h9 => h9) rfl dX1_lowestCloser_9 ?_
    refine lv_iload_n hx hb dX1_lowestCloser_12 rfl (lv_at hl 1 rfl) ?_
    refine kNI (As := [.ref (a0 1), .int p1]) (rest := []) C0 (kt_X9_at l G (a0 1) 16 (A0 1) p1 (by decide)) gi_U_X9_at (host := "IdleCrimes") (index := 33) (List.mem_of_getElem? (i := 20) rfl) gw_6 gw_7 (n := 2) rfl (by decide +kernel) ⟨rfl, rfl, Nat.le_of_ble_eq_true rfl, Nat.le_of_ble_eq_true rfl⟩ hPD hS [1] [0, 2, 3] [0, 3, 1, 2] (wN := (wX1 G h0 a0 f0 A0)) rfl rfl rfl rfl rfl hl.1 (Nat.le_of_ble_eq_true rfl) dX1_lowestCloser_13 (fun H locs hPD hS => ?_)
    refine lv_iload_n hx hb dX1_lowestCloser_16 rfl (lv_at hl 2 rfl) ?_
    refine kNI (As := [.int (f9_at 16 (A0 1) p1), .int l2]) (rest := []) C0 (kt_X9_has l G  (f9_at 16 (A0 1) p1) l2) gi_U_X9_has (host := "IdleCrimes") (index := 29) (List.mem_of_getElem? (i := 9) rfl) gw_6 gw_73 (n := 2) rfl (by decide +kernel) ⟨rfl, rfl, Nat.le_of_ble_eq_true rfl, Nat.le_of_ble_eq_true rfl⟩ hPD hS [] [0, 1, 2, 3] [0, 1, 2, 3] (wN := (wX1 G h0 a0 f0 A0)) rfl rfl rfl rfl rfl hl.1 (Nat.le_of_ble_eq_true rfl) dX1_lowestCloser_17 (fun H locs hPD hS => ?_)
    refine lv_if_eq (tgt := 40) hx hb dX1_lowestCloser_20 (by decide) (fun cc1 => ?_) (fun cc1 => ?_)
    · have h := (if_pos cc1).symm.trans h
      refine lv_iinc (v := l2 + 1) (lv' := [(2, .int (l2 + 1)), (0, .ref h0), (1, .int p1)]) hx hb dX1_lowestCloser_40 hl (k := 2) rfl rfl (by decide) rfl (fun ls hl => ?_)
      refine lv_goto (tgt := 2) hx hb dX1_lowestCloser_43 (by decide) ?_
      exact hk2 (l2 + 1) h _ _ _ hPD hS (lv_sub hl [1, 2, 0] rfl)
    · have h := (if_neg cc1).symm.trans h
      refine lv_aload_n hx hb dX1_lowestCloser_23 rfl (lv_at hl 0 rfl) ?_
      refine lv_iload_n hx hb dX1_lowestCloser_24 rfl (lv_at hl 2 rfl) ?_
      refine kVI (As := [.int l2]) (rest := []) C0 (kt_X1_stepsTo l G h0 a0 f0 A0 l2) gi_V_X1_51_X1_stepsTo (n := 1) rfl (by decide +kernel) rfl ⟨rfl, rfl, Nat.le_of_ble_eq_true rfl, Nat.le_of_ble_eq_true rfl⟩ hPD hS 0 1 rfl rfl rfl [0, 1, 2, 3] [] [0, 1, 2, 3] (wN := (wX1 G h0 a0 f0 A0)) rfl rfl rfl rfl rfl hl.1 (Nat.le_of_ble_eq_true rfl) dX1_lowestCloser_25 (fun H locs hPD hS => ?_)
      refine lv_aload_n hx hb dX1_lowestCloser_28 rfl (lv_at hl 0 rfl) ?_
      refine lv_iload_n hx hb dX1_lowestCloser_29 rfl (lv_at hl 1 rfl) ?_
      refine kVI (As := [.int p1]) (rest := [.int (f1_stepsTo f0 A0 l2)]) C0 (kt_X1_stepsTo l G h0 a0 f0 A0 p1) gi_V_X1_51_X1_stepsTo (n := 1) rfl (by decide +kernel) rfl ⟨rfl, rfl, Nat.le_of_ble_eq_true rfl, Nat.le_of_ble_eq_true rfl⟩ hPD hS 0 1 rfl rfl rfl [0, 1, 2, 3] [] [0, 1, 2, 3] (wN := (wX1 G h0 a0 f0 A0)) rfl rfl rfl rfl rfl hl.1 (Nat.le_of_ble_eq_true rfl) dX1_lowestCloser_30 (fun H locs hPD hS => ?_)
      refine lv_iconst (v := 1) hx hb dX1_lowestCloser_33 (by decide) ?_
      refine lv_isub hx hb dX1_lowestCloser_34 ?_
      refine lv_icmp_ne (tgt := 40) hx hb dX1_lowestCloser_35 (by decide) (fun cc1 => ?_) (fun cc1 => ?_)
      · have h := (if_neg cc1).symm.trans h
        refine lv_iinc (v := l2 + 1) (lv' := [(2, .int (l2 + 1)), (0, .ref h0), (1, .int p1)]) hx hb dX1_lowestCloser_40 hl (k := 2) rfl rfl (by decide) rfl (fun ls hl => ?_)
        refine lv_goto (tgt := 2) hx hb dX1_lowestCloser_43 (by decide) ?_
        exact hk2 (l2 + 1) h _ _ _ hPD hS (lv_sub hl [1, 2, 0] rfl)
      · have h := (if_pos cc1).symm.trans h
        refine lv_iload_n hx hb dX1_lowestCloser_38 rfl (lv_at hl 2 rfl) ?_
        obtain rfl := Option.some.inj h
        exact eI C0 hPD.1 hPD.2 hS rfl dX1_lowestCloser_39
set_option maxRecDepth 100000 in
set_option maxHeartbeats 4000000 in
theorem ww_f1_lowestCloser_l2  (C0 : Cx cX1_lowestCloser 3 (some .int) RX1 p s m args meth c G DA) {h0 : Nat} {a0 : Nat → Nat} {f0 : Nat → Int32} {A0 : Nat → Nat → Int32} {p1 : Int32}   {res : Int32}  : ∀ (n : Nat) (l2 : Int32), f1_lowestCloser_l2 f0 A0 p1  n l2 = some res → ∀ (H : Heap) (locs : List Loc) (ls : Array Slot), WD G DA (wX1 G h0 a0 f0 A0) H → va_S DA s.heap H locs → lv_has ls 3 [(0, .ref h0), (1, .int p1), (2, .int l2)] → W p l e rmX1_lowestCloser s m args below meth c H locs 0 0 (MQ below (QI G DA res (wX1 G h0 a0 f0 A0)) args s 0 0 DA) (F0 m 2 ls []) := by
  intro n
  induction n with
  | zero => intro l2 h; cases h
  | succ n ih => intro l2 h; exact ww_f1_lowestCloser_b2 C0  ih l2 h
set_option maxRecDepth 100000 in
set_option maxHeartbeats 4000000 in
theorem kt_X1_lowestCloser (l : Launch) (G : Gp) (h0 : Nat) (a0 : Nat → Nat) (f0 : Nat → Int32) (A0 : Nat → Nat → Int32) (p1 : Int32) : ∀ {r : Int32}, f1_lowestCloser f0 A0 p1 = some r → CtrI l yX1_lowestCloser cX1_lowestCloser 3 (some .int) rmX1_lowestCloser G [.ref h0, .int p1] (wX1 G h0 a0 f0 A0) r (wX1 G h0 a0 f0 A0) := by
  intro res h
  refine ctrI_of (cc := cX1_lowestCloser) (maxL := 3) (ret := (some .int)) (by decide +kernel) rfl (Nat.le_of_ble_eq_true rfl) (fun p e s m below meth c DA C0 hP hD ls hl => ?_)
  have hPD : WD G DA (wX1 G h0 a0 f0 A0) s.heap := ⟨hP, hD⟩
  have hS : va_S DA s.heap s.heap [] := va_S.rf
  have hl : lv_has ls 3 [(0, .ref h0), (1, .int p1)] := hl
  obtain ⟨hx, hb, hml, hown, hts⟩ := C0.1
  have hK := C0.2.2.2.1
  unfold f1_lowestCloser at h
  refine lv_iconst (v := 0) hx hb dX1_lowestCloser_0 (by decide) ?_
  refine lv_istore_n (lv' := [(2, .int 0), (0, .ref h0), (1, .int p1)]) hx hb dX1_lowestCloser_1 rfl hl (by decide) rfl (fun ls hl => ?_)
  exact ww_f1_lowestCloser_l2 C0 NF 0 h _ _ _ hPD hS (lv_sub hl [1, 2, 0] rfl)
abbrev rmX1_stepTowards : Room := { frames := 3, cells := 0, slots := 0, locals := 65 }
set_option maxRecDepth 100000 in
set_option maxHeartbeats 4000000 in
theorem ww_f1_stepTowards_b5  (C0 : Cx cX1_stepTowards 5 (some .int) RX1 p s m args meth c G DA) {h0 : Nat} {a0 : Nat → Nat} {f0 : Nat → Int32} {A0 : Nat → Nat → Int32} {p1 : Int32} {p2 : Int32}  {k5 : Int32 → Int32 → Option (Int32)} {res : Int32}  (hk5 : ∀ (l3 : Int32) (l4 : Int32), k5 l3 l4 = some res → ∀ (H : Heap) (locs : List Loc) (ls : Array Slot), WD G DA (wX1 G h0 a0 f0 A0) H → va_S DA s.heap H locs → lv_has ls 5 [(0, .ref h0), (1, .int p1), (2, .int p2), (3, .int l3), (4, .int l4)] → W p l e rmX1_stepTowards s m args below meth c H locs 0 0 (MQ below (QI G DA res (wX1 G h0 a0 f0 A0)) args s 0 0 DA) (F0 m 5 ls [])) : ∀ (l3 : Int32) (l4 : Int32), f1_stepTowards_b5 f0 A0 p1 p2  k5 l3 l4 = some res → ∀ (H : Heap) (locs : List Loc) (ls : Array Slot), WD G DA (wX1 G h0 a0 f0 A0) H → va_S DA s.heap H locs → lv_has ls 5 [(0, .ref h0), (1, .int p1), (2, .int p2), (3, .int l3), (4, .int l4)] → W p l e rmX1_stepTowards s m args below meth c H locs 0 0 (MQ below (QI G DA res (wX1 G h0 a0 f0 A0)) args s 0 0 DA) (F0 m 5 ls []) := by
  obtain ⟨hx, hb, hml, hown, hts⟩ := C0.1
  have hK := C0.2.2.2.1
  intro l3 l4 h _ _ _ hPD hS hl
  unfold f1_stepTowards_b5 at h
  refine lv_iload hx hb dX1_stepTowards_5 (lv_at hl 4 rfl) ?_
  refine lv_iload_n hx hb dX1_stepTowards_7 rfl (lv_at hl 2 rfl) ?_
  refine lv_icmp_ge (tgt := 30) hx hb dX1_stepTowards_8 (by decide) (fun cc1 => ?_) (fun cc1 => ?_)
  · have h := (if_pos cc1).symm.trans h
    refine lv_iload_n hx hb dX1_stepTowards_30 rfl (lv_at hl 3 rfl) ?_
    obtain rfl := Option.some.inj h
    exact eI C0 hPD.1 hPD.2 hS rfl dX1_stepTowards_31
  · have h := (if_neg cc1).symm.trans h
    refine lv_iload hx hb dX1_stepTowards_11 (lv_at hl 4 rfl) ?_
    refine lv_bipush (v := 16) hx hb dX1_stepTowards_13 (by decide) ?_
    refine lv_icmp_ge (tgt := 30) hx hb dX1_stepTowards_15 (by decide) (fun cc1 => ?_) (fun cc1 => ?_)
    · have h := (if_pos cc1).symm.trans h
      refine lv_iload_n hx hb dX1_stepTowards_30 rfl (lv_at hl 3 rfl) ?_
      obtain rfl := Option.some.inj h
      exact eI C0 hPD.1 hPD.2 hS rfl dX1_stepTowards_31
    · have h := (if_neg cc1).symm.trans h
      refine lv_aload_n hx hb dX1_stepTowards_18 rfl (lv_at hl 0 rfl) ?_
      refine lv_iload_n hx hb dX1_stepTowards_19 rfl (lv_at hl 3 rfl) ?_
      obtain ⟨q_1, hq_1, h⟩ := ob2 h
      refine kVI (As := [.int l3]) (rest := []) C0 (kt_X1_lowestCloser l G h0 a0 f0 A0 l3 hq_1) gi_V_X1_48_X1_lowestCloser (n := 1) rfl (by decide +kernel) rfl ⟨rfl, rfl, Nat.le_of_ble_eq_true rfl, Nat.le_of_ble_eq_true rfl⟩ hPD hS 0 1 rfl rfl rfl [0, 1, 2, 3] [] [0, 1, 2, 3] (wN := (wX1 G h0 a0 f0 A0)) rfl rfl rfl rfl rfl hl.1 (Nat.le_of_ble_eq_true rfl) dX1_stepTowards_20 (fun H locs hPD hS => ?_)
      refine lv_istore_n (lv' := [(3, .int q_1), (0, .ref h0), (1, .int p1), (2, .int p2), (4, .int l4)]) hx hb dX1_stepTowards_23 rfl hl (by decide) rfl (fun ls hl => ?_)
      refine lv_iinc (v := l4 + 1) (lv' := [(4, .int (l4 + 1)), (3, .int q_1), (0, .ref h0), (1, .int p1), (2, .int p2)]) hx hb dX1_stepTowards_24 hl (k := 4) rfl rfl (by decide) rfl (fun ls hl => ?_)
      refine lv_goto (tgt := 5) hx hb dX1_stepTowards_27 (by decide) ?_
      exact hk5 q_1 (l4 + 1) h _ _ _ hPD hS (lv_sub hl [2, 3, 4, 1, 0] rfl)
set_option maxRecDepth 100000 in
set_option maxHeartbeats 4000000 in
theorem ww_f1_stepTowards_l5  (C0 : Cx cX1_stepTowards 5 (some .int) RX1 p s m args meth c G DA) {h0 : Nat} {a0 : Nat → Nat} {f0 : Nat → Int32} {A0 : Nat → Nat → Int32} {p1 : Int32} {p2 : Int32}   {res : Int32}  : ∀ (n : Nat) (l3 : Int32) (l4 : Int32), f1_stepTowards_l5 f0 A0 p1 p2  n l3 l4 = some res → ∀ (H : Heap) (locs : List Loc) (ls : Array Slot), WD G DA (wX1 G h0 a0 f0 A0) H → va_S DA s.heap H locs → lv_has ls 5 [(0, .ref h0), (1, .int p1), (2, .int p2), (3, .int l3), (4, .int l4)] → W p l e rmX1_stepTowards s m args below meth c H locs 0 0 (MQ below (QI G DA res (wX1 G h0 a0 f0 A0)) args s 0 0 DA) (F0 m 5 ls []) := by
  intro n
  induction n with
  | zero => intro l3 l4 h; cases h
  | succ n ih => intro l3 l4 h; exact ww_f1_stepTowards_b5 C0  ih l3 l4 h
set_option maxRecDepth 100000 in
set_option maxHeartbeats 4000000 in
theorem kt_X1_stepTowards (l : Launch) (G : Gp) (h0 : Nat) (a0 : Nat → Nat) (f0 : Nat → Int32) (A0 : Nat → Nat → Int32) (p1 : Int32) (p2 : Int32) : ∀ {r : Int32}, f1_stepTowards f0 A0 p1 p2 = some r → CtrI l yX1_stepTowards cX1_stepTowards 5 (some .int) rmX1_stepTowards G [.ref h0, .int p1, .int p2] (wX1 G h0 a0 f0 A0) r (wX1 G h0 a0 f0 A0) := by
  intro res h
  refine ctrI_of (cc := cX1_stepTowards) (maxL := 5) (ret := (some .int)) (by decide +kernel) rfl (Nat.le_of_ble_eq_true rfl) (fun p e s m below meth c DA C0 hP hD ls hl => ?_)
  have hPD : WD G DA (wX1 G h0 a0 f0 A0) s.heap := ⟨hP, hD⟩
  have hS : va_S DA s.heap s.heap [] := va_S.rf
  have hl : lv_has ls 5 [(0, .ref h0), (1, .int p1), (2, .int p2)] := hl
  obtain ⟨hx, hb, hml, hown, hts⟩ := C0.1
  have hK := C0.2.2.2.1
  unfold f1_stepTowards at h
  refine lv_iload_n hx hb dX1_stepTowards_0 rfl (lv_at hl 1 rfl) ?_
  refine lv_istore_n (lv' := [(3, .int p1), (0, .ref h0), (1, .int p1), (2, .int p2)]) hx hb dX1_stepTowards_1 rfl hl (by decide) rfl (fun ls hl => ?_)
  refine lv_iconst (v := 0) hx hb dX1_stepTowards_2 (by decide) ?_
  refine lv_istore (lv' := [(4, .int 0), (3, .int p1), (0, .ref h0), (1, .int p1), (2, .int p2)]) hx hb dX1_stepTowards_3 hl (by decide) rfl (fun ls hl => ?_)
  exact ww_f1_stepTowards_l5 C0 NF p1 0 h _ _ _ hPD hS (lv_sub hl [2, 3, 4, 1, 0] rfl)
abbrev rmX1_waysFromCloser : Room := { frames := 2, cells := 0, slots := 0, locals := 43 }
set_option maxRecDepth 100000 in
set_option maxHeartbeats 4000000 in
theorem ww_f1_waysFromCloser_b5  (C0 : Cx cX1_waysFromCloser 5 (some .int) RX1 p s m args meth c G DA) {h0 : Nat} {a0 : Nat → Nat} {f0 : Nat → Int32} {A0 : Nat → Nat → Int32} {p1 : Int32} {p2 : Int32}  {k5 : Int32 → Int32 → Option (Int32)} {res : Int32}  (hk5 : ∀ (l3 : Int32) (l4 : Int32), k5 l3 l4 = some res → ∀ (H : Heap) (locs : List Loc) (ls : Array Slot), WD G DA (wX1 G h0 a0 f0 A0) H → va_S DA s.heap H locs → lv_has ls 5 [(0, .ref h0), (1, .int p1), (2, .int p2), (3, .int l3), (4, .int l4)] → W p l e rmX1_waysFromCloser s m args below meth c H locs 0 0 (MQ below (QI G DA res (wX1 G h0 a0 f0 A0)) args s 0 0 DA) (F0 m 5 ls [])) : ∀ (l3 : Int32) (l4 : Int32), f1_waysFromCloser_b5 f0 A0 p1 p2  k5 l3 l4 = some res → ∀ (H : Heap) (locs : List Loc) (ls : Array Slot), WD G DA (wX1 G h0 a0 f0 A0) H → va_S DA s.heap H locs → lv_has ls 5 [(0, .ref h0), (1, .int p1), (2, .int p2), (3, .int l3), (4, .int l4)] → W p l e rmX1_waysFromCloser s m args below meth c H locs 0 0 (MQ below (QI G DA res (wX1 G h0 a0 f0 A0)) args s 0 0 DA) (F0 m 5 ls []) := by
  obtain ⟨hx, hb, hml, hown, hts⟩ := C0.1
  have hK := C0.2.2.2.1
  intro l3 l4 h _ _ _ hPD hS hl
  unfold f1_waysFromCloser_b5 at h
  refine lv_iload hx hb dX1_waysFromCloser_5 (lv_at hl 4 rfl) ?_
  refine lv_bipush (v := 16) hx hb dX1_waysFromCloser_7 (by decide) ?_
  refine lv_icmp_ge (tgt := 58) hx hb dX1_waysFromCloser_9 (by decide) (fun cc1 => ?_) (fun cc1 => ?_)
  · have h := (if_pos cc1).symm.trans h
    refine lv_iload_n hx hb dX1_waysFromCloser_58 rfl (lv_at hl 3 rfl) ?_
    obtain rfl := Option.some.inj h
    exact eI C0 hPD.1 hPD.2 hS rfl dX1_waysFromCloser_59
  · have h := (if_neg cc1).symm.trans h
    refine lv_aload_n hx hb dX1_waysFromCloser_12 rfl (lv_at hl 0 rfl) ?_
    refine va_get (D := G.1) (ci := 1) (v := .ref (a0 1)) (C := RX1) (T := TX1) (N := 4) hx hb hts inlX1 hown hK hPD.1 0 rfl rfl 1 (by decide) (hts _ gw_75) (fun _ h9 => h9) rfl dX1_waysFromCloser_13 ?_
    refine lv_iload_n hx hb dX1_waysFromCloser_16 rfl (lv_at hl 1 rfl) ?_
    refine kNI (As := [.ref (a0 1), .int p1]) (rest := []) C0 (kt_X9_at l G (a0 1) 16 (A0 1) p1 (by decide)) gi_U_X9_at (host := "IdleCrimes") (index := 33) (List.mem_of_getElem? (i := 20) rfl) gw_6 gw_7 (n := 2) rfl (by decide +kernel) ⟨rfl, rfl, Nat.le_of_ble_eq_true rfl, Nat.le_of_ble_eq_true rfl⟩ hPD hS [1] [0, 2, 3] [0, 3, 1, 2] (wN := (wX1 G h0 a0 f0 A0)) rfl rfl rfl rfl rfl hl.1 (Nat.le_of_ble_eq_true rfl) dX1_waysFromCloser_17 (fun H locs hPD hS => ?_)
    refine lv_iload hx hb dX1_waysFromCloser_20 (lv_at hl 4 rfl) ?_
    refine kNI (As := [.int (f9_at 16 (A0 1) p1), .int l4]) (rest := []) C0 (kt_X9_has l G  (f9_at 16 (A0 1) p1) l4) gi_U_X9_has (host := "IdleCrimes") (index := 29) (List.mem_of_getElem? (i := 9) rfl) gw_6 gw_73 (n := 2) rfl (by decide +kernel) ⟨rfl, rfl, Nat.le_of_ble_eq_true rfl, Nat.le_of_ble_eq_true rfl⟩ hPD hS [] [0, 1, 2, 3] [0, 1, 2, 3] (wN := (wX1 G h0 a0 f0 A0)) rfl rfl rfl rfl rfl hl.1 (Nat.le_of_ble_eq_true rfl) dX1_waysFromCloser_22 (fun H locs hPD hS => ?_)
    refine lv_if_eq (tgt := 52) hx hb dX1_waysFromCloser_25 (by decide) (fun cc1 => ?_) (fun cc1 => ?_)
    · have h := (if_pos cc1).symm.trans h
      refine lv_iinc (v := l4 + 1) (lv' := [(4, .int (l4 + 1)), (0, .ref h0), (1, .int p1), (2, .int p2), (3, .int l3)]) hx hb dX1_waysFromCloser_52 hl (k := 4) rfl rfl (by decide) rfl (fun ls hl => ?_)
      refine lv_goto (tgt := 5) hx hb dX1_waysFromCloser_55 (by decide) ?_
      exact hk5 l3 (l4 + 1) h _ _ _ hPD hS (lv_sub hl [1, 2, 3, 4, 0] rfl)
    · have h := (if_neg cc1).symm.trans h
      refine lv_aload_n hx hb dX1_waysFromCloser_28 rfl (lv_at hl 0 rfl) ?_
      refine lv_iload hx hb dX1_waysFromCloser_29 (lv_at hl 4 rfl) ?_
      refine kVI (As := [.int l4]) (rest := []) C0 (kt_X1_stepsTo l G h0 a0 f0 A0 l4) gi_V_X1_51_X1_stepsTo (n := 1) rfl (by decide +kernel) rfl ⟨rfl, rfl, Nat.le_of_ble_eq_true rfl, Nat.le_of_ble_eq_true rfl⟩ hPD hS 0 1 rfl rfl rfl [0, 1, 2, 3] [] [0, 1, 2, 3] (wN := (wX1 G h0 a0 f0 A0)) rfl rfl rfl rfl rfl hl.1 (Nat.le_of_ble_eq_true rfl) dX1_waysFromCloser_31 (fun H locs hPD hS => ?_)
      refine lv_iload_n hx hb dX1_waysFromCloser_34 rfl (lv_at hl 2 rfl) ?_
      refine lv_iconst (v := 1) hx hb dX1_waysFromCloser_35 (by decide) ?_
      refine lv_isub hx hb dX1_waysFromCloser_36 ?_
      refine lv_icmp_ne (tgt := 52) hx hb dX1_waysFromCloser_37 (by decide) (fun cc1 => ?_) (fun cc1 => ?_)
      · have h := (if_neg cc1).symm.trans h
        refine lv_iinc (v := l4 + 1) (lv' := [(4, .int (l4 + 1)), (0, .ref h0), (1, .int p1), (2, .int p2), (3, .int l3)]) hx hb dX1_waysFromCloser_52 hl (k := 4) rfl rfl (by decide) rfl (fun ls hl => ?_)
        refine lv_goto (tgt := 5) hx hb dX1_waysFromCloser_55 (by decide) ?_
        exact hk5 l3 (l4 + 1) h _ _ _ hPD hS (lv_sub hl [1, 2, 3, 4, 0] rfl)
      · have h := (if_pos cc1).symm.trans h
        refine lv_iload_n hx hb dX1_waysFromCloser_40 rfl (lv_at hl 3 rfl) ?_
        refine lv_aload_n hx hb dX1_waysFromCloser_41 rfl (lv_at hl 0 rfl) ?_
        refine va_get (D := G.1) (ci := 1) (v := .ref (a0 3)) (C := RX1) (T := TX1) (N := 4) hx hb hts inlX1 hown hK hPD.1 0 rfl rfl 3 (by decide) (hts _ gw_94) (fun _ h9 => h9) rfl dX1_waysFromCloser_42 ?_
        refine lv_iload hx hb dX1_waysFromCloser_45 (lv_at hl 4 rfl) ?_
        refine kNI (As := [.ref (a0 3), .int l4]) (rest := [.int l3]) C0 (kt_X9_at l G (a0 3) 16 (A0 3) l4 (by decide)) gi_U_X9_at (host := "IdleCrimes") (index := 33) (List.mem_of_getElem? (i := 20) rfl) gw_6 gw_7 (n := 2) rfl (by decide +kernel) ⟨rfl, rfl, Nat.le_of_ble_eq_true rfl, Nat.le_of_ble_eq_true rfl⟩ hPD hS [3] [0, 1, 2] [0, 1, 2, 3] (wN := (wX1 G h0 a0 f0 A0)) rfl rfl rfl rfl rfl hl.1 (Nat.le_of_ble_eq_true rfl) dX1_waysFromCloser_47 (fun H locs hPD hS => ?_)
        refine lv_iadd hx hb dX1_waysFromCloser_50 ?_
        refine lv_istore_n (lv' := [(3, .int (l3 + (f9_at 16 (A0 3) l4))), (0, .ref h0), (1, .int p1), (2, .int p2), (4, .int l4)]) hx hb dX1_waysFromCloser_51 rfl hl (by decide) rfl (fun ls hl => ?_)
        refine lv_iinc (v := l4 + 1) (lv' := [(4, .int (l4 + 1)), (3, .int (l3 + (f9_at 16 (A0 3) l4))), (0, .ref h0), (1, .int p1), (2, .int p2)]) hx hb dX1_waysFromCloser_52 hl (k := 4) rfl rfl (by decide) rfl (fun ls hl => ?_)
        refine lv_goto (tgt := 5) hx hb dX1_waysFromCloser_55 (by decide) ?_
        exact hk5 (l3 + (f9_at 16 (A0 3) l4)) (l4 + 1) h _ _ _ hPD hS (lv_sub hl [2, 3, 4, 1, 0] rfl)
set_option maxRecDepth 100000 in
set_option maxHeartbeats 4000000 in
theorem ww_f1_waysFromCloser_l5  (C0 : Cx cX1_waysFromCloser 5 (some .int) RX1 p s m args meth c G DA) {h0 : Nat} {a0 : Nat → Nat} {f0 : Nat → Int32} {A0 : Nat → Nat → Int32} {p1 : Int32} {p2 : Int32}   {res : Int32}  : ∀ (n : Nat) (l3 : Int32) (l4 : Int32), f1_waysFromCloser_l5 f0 A0 p1 p2  n l3 l4 = some res → ∀ (H : Heap) (locs : List Loc) (ls : Array Slot), WD G DA (wX1 G h0 a0 f0 A0) H → va_S DA s.heap H locs → lv_has ls 5 [(0, .ref h0), (1, .int p1), (2, .int p2), (3, .int l3), (4, .int l4)] → W p l e rmX1_waysFromCloser s m args below meth c H locs 0 0 (MQ below (QI G DA res (wX1 G h0 a0 f0 A0)) args s 0 0 DA) (F0 m 5 ls []) := by
  intro n
  induction n with
  | zero => intro l3 l4 h; cases h
  | succ n ih => intro l3 l4 h; exact ww_f1_waysFromCloser_b5 C0  ih l3 l4 h
set_option maxRecDepth 100000 in
set_option maxHeartbeats 4000000 in
theorem kt_X1_waysFromCloser (l : Launch) (G : Gp) (h0 : Nat) (a0 : Nat → Nat) (f0 : Nat → Int32) (A0 : Nat → Nat → Int32) (p1 : Int32) (p2 : Int32) : ∀ {r : Int32}, f1_waysFromCloser f0 A0 p1 p2 = some r → CtrI l yX1_waysFromCloser cX1_waysFromCloser 5 (some .int) rmX1_waysFromCloser G [.ref h0, .int p1, .int p2] (wX1 G h0 a0 f0 A0) r (wX1 G h0 a0 f0 A0) := by
  intro res h
  refine ctrI_of (cc := cX1_waysFromCloser) (maxL := 5) (ret := (some .int)) (by decide +kernel) rfl (Nat.le_of_ble_eq_true rfl) (fun p e s m below meth c DA C0 hP hD ls hl => ?_)
  have hPD : WD G DA (wX1 G h0 a0 f0 A0) s.heap := ⟨hP, hD⟩
  have hS : va_S DA s.heap s.heap [] := va_S.rf
  have hl : lv_has ls 5 [(0, .ref h0), (1, .int p1), (2, .int p2)] := hl
  obtain ⟨hx, hb, hml, hown, hts⟩ := C0.1
  have hK := C0.2.2.2.1
  unfold f1_waysFromCloser at h
  refine lv_iconst (v := 0) hx hb dX1_waysFromCloser_0 (by decide) ?_
  refine lv_istore_n (lv' := [(3, .int 0), (0, .ref h0), (1, .int p1), (2, .int p2)]) hx hb dX1_waysFromCloser_1 rfl hl (by decide) rfl (fun ls hl => ?_)
  refine lv_iconst (v := 0) hx hb dX1_waysFromCloser_2 (by decide) ?_
  refine lv_istore (lv' := [(4, .int 0), (3, .int 0), (0, .ref h0), (1, .int p1), (2, .int p2)]) hx hb dX1_waysFromCloser_3 hl (by decide) rfl (fun ls hl => ?_)
  exact ww_f1_waysFromCloser_l5 C0 NF 0 0 h _ _ _ hPD hS (lv_sub hl [2, 3, 4, 1, 0] rfl)
end WALK
