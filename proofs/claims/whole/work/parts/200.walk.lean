section WALK
variable {p : Program} {l : Launch} {e : Env} {s : State} {m : MethodId} {args : Array Value} {below : List Frame} {meth : Method} {c : Code} {G : Gp} {DA : Nat → Prop}
abbrev rmJ9_floorMod_7cf53 : Room := { frames := 0, cells := 0, slots := 0, locals := 0 }
set_option maxRecDepth 100000 in
set_option maxHeartbeats 4000000 in
theorem kt_J9_floorMod_7cf53 (l : Launch) (G : Gp) (p0 : Int32) (p1 : Int32) : ∀ {r : Int32}, fJ9_floorMod_7cf53 p0 p1 = some r → CtrI l yJ9_floorMod_7cf53 cJ9_floorMod_7cf53 3 (some .int) rmJ9_floorMod_7cf53 G [.int p0, .int p1] ([] : va_W) r ([] : va_W) := by
  intro res h
  refine ctrI_ofF (cc := cJ9_floorMod_7cf53) (maxL := 3) (ret := (some .int)) (by decide +kernel) rfl (Nat.le_of_ble_eq_true rfl) (fun p e s m below meth c DA C0 hP hD ls hl => ?_)
  have hPD : WD G DA ([] : va_W) s.heap := ⟨hP, hD⟩
  have hS : va_S DA s.heap s.heap [] := va_S.rf
  have hl : lv_has ls 3 [(0, .int p0), (1, .int p1)] := hl
  obtain ⟨hx, hb, hml, hown, hts⟩ := C0.1
  have hK := C0.2.2.2.1
  unfold fJ9_floorMod_7cf53 at h
  refine lv_iload_n hx hb dJ9_floorMod_7cf53_0 rfl (lv_at hl 0 rfl) ?_
  refine lv_iload_n hx hb dJ9_floorMod_7cf53_1 rfl (lv_at hl 1 rfl) ?_
  obtain ⟨hz, h⟩ := ob h
  refine lv_irem hx hb dJ9_floorMod_7cf53_2 hz ?_
  refine lv_istore_n (lv' := [(2, .int (irm p0 p1)), (0, .int p0), (1, .int p1)]) hx hb dJ9_floorMod_7cf53_3 rfl hl (by decide) rfl (fun ls hl => ?_)
  refine lv_iload_n hx hb dJ9_floorMod_7cf53_4 rfl (lv_at hl 1 rfl) ?_
  refine lv_iload_n hx hb dJ9_floorMod_7cf53_5 rfl (lv_at hl 2 rfl) ?_
  refine lv_ixor hx hb dJ9_floorMod_7cf53_6 ?_
  refine lv_if_ge (tgt := 18) hx hb dJ9_floorMod_7cf53_7 (by decide) (fun cc1 => ?_) (fun cc1 => ?_)
  · have h := (if_pos cc1).symm.trans h
    refine lv_iload_n hx hb dJ9_floorMod_7cf53_18 rfl (lv_at hl 0 rfl) ?_
    obtain rfl := Option.some.inj h
    exact eI C0 hPD.1 hPD.2 hS rfl dJ9_floorMod_7cf53_19
  · have h := (if_neg cc1).symm.trans h
    refine lv_iload_n hx hb dJ9_floorMod_7cf53_10 rfl (lv_at hl 0 rfl) ?_
    refine lv_if_eq (tgt := 18) hx hb dJ9_floorMod_7cf53_11 (by decide) (fun cc1 => ?_) (fun cc1 => ?_)
    · have h := (if_pos cc1).symm.trans h
      refine lv_iload_n hx hb dJ9_floorMod_7cf53_18 rfl (lv_at hl 0 rfl) ?_
      obtain rfl := Option.some.inj h
      exact eI C0 hPD.1 hPD.2 hS rfl dJ9_floorMod_7cf53_19
    · have h := (if_neg cc1).symm.trans h
      refine lv_iload_n hx hb dJ9_floorMod_7cf53_14 rfl (lv_at hl 0 rfl) ?_
      refine lv_iload_n hx hb dJ9_floorMod_7cf53_15 rfl (lv_at hl 2 rfl) ?_
      refine lv_iadd hx hb dJ9_floorMod_7cf53_16 ?_
      obtain rfl := Option.some.inj h
      exact eI C0 hPD.1 hPD.2 hS rfl dJ9_floorMod_7cf53_17
abbrev rmX9_at : Room := { frames := 0, cells := 0, slots := 0, locals := 0 }
theorem idx_cond {n : Nat} (hn : n < 2147483648) {i : Int32} (h0 : ¬ i < 0) : nI n ≤ i ↔ n ≤ i.toNatClampNeg := by
  obtain ⟨j, hj, rfl⟩ := nI_of h0
  rw [nI_clamp hj, nI_leI (by omega) hj]
set_option maxRecDepth 100000 in
set_option maxHeartbeats 4000000 in
theorem kt_X9_at (l : Launch) (G : Gp) (q0 : Nat) (n0 : Nat) (xs0 : Nat → Int32) (p1 : Int32) (hn0 : n0 < 2147483648) : CtrI l yX9_at cX9_at 2 (some .int) rmX9_at G [.ref q0, .int p1] (wI G q0 n0 xs0) (f9_at n0 xs0 p1) (wI G q0 n0 xs0) := by
  refine ctrI_of (cc := cX9_at) (maxL := 2) (ret := (some .int)) (by decide) rfl (Nat.le_of_ble_eq_true rfl) (fun p e s m below meth c DA C0 hP hD ls hl => ?_)
  have hPD : WD G DA (wI G q0 n0 xs0) s.heap := ⟨hP, hD⟩
  have hS : va_S DA s.heap s.heap [] := va_S.rf
  have hl : lv_has ls 2 [(0, .ref q0), (1, .int p1)] := hl
  obtain ⟨hx, hb, hml, hown, hts⟩ := C0.1
  have hK := C0.2.2.2.1
  unfold f9_at
  refine lv_iload_n hx hb dX9_at_0 rfl (lv_at hl 1 rfl) ?_
  refine lv_if_lt (tgt := 16) hx hb dX9_at_1 (by decide) (fun cc1 => ?_) (fun cc1 => ?_)
  · refine lv_iconst (v := 0) hx hb dX9_at_16 (by decide) ?_
    exact eI C0 hPD.1 hPD.2 hS (if_pos (Or.inl cc1)).symm dX9_at_17
  · refine lv_iload_n hx hb dX9_at_4 rfl (lv_at hl 1 rfl) ?_
    refine lv_aload_n hx hb dX9_at_5 rfl (lv_at hl 0 rfl) ?_
    refine va_alen (v := nI n0) hx hb hK hPD.1 0 1 rfl rfl rfl dX9_at_6 ?_
    refine lv_icmp_ge (tgt := 16) hx hb dX9_at_7 (by decide) (fun cc2 => ?_) (fun cc2 => ?_)
    · refine lv_iconst (v := 0) hx hb dX9_at_16 (by decide) ?_
      exact eI C0 hPD.1 hPD.2 hS (if_pos (Or.inr ((idx_cond hn0 cc1).mp cc2))).symm dX9_at_17
    · have hi : ¬ (p1 < 0 ∨ n0 ≤ p1.toNatClampNeg) := fun h => h.elim cc1 (fun h => cc2 ((idx_cond hn0 cc1).mpr h))
      refine lv_aload_n hx hb dX9_at_10 rfl (lv_at hl 0 rfl) ?_
      refine lv_iload_n hx hb dX9_at_11 rfl (lv_at hl 1 rfl) ?_
      refine va_iald hx hb hK hPD.1 0 1 rfl rfl hi dX9_at_12 ?_
      refine lv_goto (tgt := 17) hx hb dX9_at_13 (by decide) ?_
      exact eI C0 hPD.1 hPD.2 hS (if_neg hi).symm dX9_at_17
abbrev rmX0_stepAt : Room := { frames := 1, cells := 0, slots := 0, locals := 22 }
set_option maxRecDepth 100000 in
set_option maxHeartbeats 4000000 in
theorem kt_X0_stepAt (l : Launch) (G : Gp) (h0 : Nat) (a0 : Nat → Nat) (f0 : Nat → Int32) (A0 : Nat → Nat → Int32) (p1 : Int32) : ∀ {r : Int32}, f0_stepAt f0 A0 p1 = some r → CtrI l yX0_stepAt cX0_stepAt 2 (some .int) rmX0_stepAt G [.ref h0, .int p1] (wX0 G h0 a0 f0 A0) r (wX0 G h0 a0 f0 A0) := by
  intro res h
  refine ctrI_of (cc := cX0_stepAt) (maxL := 2) (ret := (some .int)) (by decide +kernel) rfl (Nat.le_of_ble_eq_true rfl) (fun p e s m below meth c DA C0 hP hD ls hl => ?_)
  have hPD : WD G DA (wX0 G h0 a0 f0 A0) s.heap := ⟨hP, hD⟩
  have hS : va_S DA s.heap s.heap [] := va_S.rf
  have hl : lv_has ls 2 [(0, .ref h0), (1, .int p1)] := hl
  obtain ⟨hx, hb, hml, hown, hts⟩ := C0.1
  have hK := C0.2.2.2.1
  unfold f0_stepAt at h
  refine lv_aload_n hx hb dX0_stepAt_0 rfl (lv_at hl 0 rfl) ?_
  refine va_get (D := G.1) (ci := 0) (v := .int (f0 1)) (C := RX0) (T := TX0) (N := 2) hx hb hts inlX0 hown hK hPD.1 0 rfl rfl 1 (by decide) (hts _ gw_0) (fun _ h9 => h9) rfl dX0_stepAt_1 ?_
  refine lv_if_le (tgt := 25) hx hb dX0_stepAt_4 (by decide) (fun cc1 => ?_) (fun cc1 => ?_)
  · have h := (if_pos cc1).symm.trans h
    refine lv_iconst (v := (-1)) hx hb dX0_stepAt_25 (by decide) ?_
    obtain rfl := Option.some.inj h
    exact eI C0 hPD.1 hPD.2 hS rfl dX0_stepAt_26
  · have h := (if_neg cc1).symm.trans h
    refine lv_aload_n hx hb dX0_stepAt_7 rfl (lv_at hl 0 rfl) ?_
    refine va_get (D := G.1) (ci := 0) (v := .ref (a0 0)) (C := RX0) (T := TX0) (N := 2) hx hb hts inlX0 hown hK hPD.1 0 rfl rfl 0 (by decide) (hts _ gw_1) (fun _ h9 => h9) rfl dX0_stepAt_8 ?_
    refine lv_iload_n hx hb dX0_stepAt_11 rfl (lv_at hl 1 rfl) ?_
    refine lv_aload_n hx hb dX0_stepAt_12 rfl (lv_at hl 0 rfl) ?_
    refine va_get (D := G.1) (ci := 0) (v := .int (f0 1)) (C := RX0) (T := TX0) (N := 2) hx hb hts inlX0 hown hK hPD.1 0 rfl rfl 1 (by decide) (hts _ gw_0) (fun _ h9 => h9) rfl dX0_stepAt_13 ?_
    obtain ⟨q_1, hq_1, h⟩ := ob2 h
    refine kSI (As := [.int p1, .int (f0 1)]) (rest := [.ref (a0 0)]) C0 (kt_J9_floorMod_7cf53 l G  p1 (f0 1) hq_1) gi_S_X0_19_J9_floorMod_7cf53 (n := 2) rfl (by decide +kernel) ⟨rfl, rfl, Nat.le_of_ble_eq_true rfl, Nat.le_of_ble_eq_true rfl⟩ hPD hS [] [0, 1] [0, 1] (wr := (wX0 G h0 a0 f0 A0)) (wN := (wX0 G h0 a0 f0 A0)) rfl rfl rfl rfl rfl hl.1 (Nat.le_of_ble_eq_true rfl) dX0_stepAt_16 (fun H locs hPD hS => ?_)
    refine kNI (As := [.ref (a0 0), .int q_1]) (rest := []) C0 (kt_X9_at l G (a0 0) 48 (A0 0) q_1 (by decide)) gi_U_X9_at (host := "IdleCrimes") (index := 25) (List.mem_of_getElem? (i := 15) rfl) gw_6 gw_7 (n := 2) rfl (by decide +kernel) ⟨rfl, rfl, Nat.le_of_ble_eq_true rfl, Nat.le_of_ble_eq_true rfl⟩ hPD hS [1] [0] [0, 1] (wr := pick (wX0 G h0 a0 f0 A0) [0]) (wN := (wX0 G h0 a0 f0 A0)) rfl rfl rfl rfl rfl hl.1 (Nat.le_of_ble_eq_true rfl) dX0_stepAt_19 (fun H locs hPD hS => ?_)
    refine lv_goto (tgt := 26) hx hb dX0_stepAt_22 (by decide) ?_
    obtain rfl := Option.some.inj h
    exact eI C0 hPD.1 hPD.2 hS rfl dX0_stepAt_26
abbrev rmX7_isFine : Room := { frames := 0, cells := 0, slots := 0, locals := 0 }
set_option maxRecDepth 100000 in
set_option maxHeartbeats 4000000 in
theorem kt_X7_isFine (l : Launch) (G : Gp) (h0 : Nat) (a0 : Nat → Nat) (f0 : Nat → Int32) (A0 : Nat → Nat → Int32) : CtrI l yX7_isFine cX7_isFine 1 (some .boolean) rmX7_isFine G [.ref h0] (wX7 G h0 a0 f0 A0) (f7_isFine f0 A0) (wX7 G h0 a0 f0 A0) := by
  obtain ⟨res, h⟩ : ∃ res, f7_isFine f0 A0 = res := ⟨_, rfl⟩
  rw [h]
  refine ctrI_of (cc := cX7_isFine) (maxL := 1) (ret := (some .boolean)) (by decide +kernel) rfl (Nat.le_of_ble_eq_true rfl) (fun p e s m below meth c DA C0 hP hD ls hl => ?_)
  have hPD : WD G DA (wX7 G h0 a0 f0 A0) s.heap := ⟨hP, hD⟩
  have hS : va_S DA s.heap s.heap [] := va_S.rf
  have hl : lv_has ls 1 [(0, .ref h0)] := hl
  obtain ⟨hx, hb, hml, hown, hts⟩ := C0.1
  have hK := C0.2.2.2.1
  unfold f7_isFine at h
  refine lv_aload_n hx hb dX7_isFine_0 rfl (lv_at hl 0 rfl) ?_
  refine va_get (D := G.1) (ci := 7) (v := .int (f0 4)) (C := RX7) (T := TX7) (N := 6) hx hb hts inlX7 hown hK hPD.1 0 rfl rfl 4 (by decide) (hts _ gw_9) (fun _ h9 => h9) rfl dX7_isFine_1 ?_
  refine lv_if_ne (tgt := 11) hx hb dX7_isFine_4 (by decide) (fun cc1 => ?_) (fun cc1 => ?_)
  · have h := (if_neg cc1).symm.trans h
    refine lv_iconst (v := 0) hx hb dX7_isFine_11 (by decide) ?_
    subst h
    exact eZ C0 hPD.1 hPD.2 hS rfl rfl dX7_isFine_12
  · have h := (if_pos cc1).symm.trans h
    refine lv_iconst (v := 1) hx hb dX7_isFine_7 (by decide) ?_
    refine lv_goto (tgt := 12) hx hb dX7_isFine_8 (by decide) ?_
    subst h
    exact eZ C0 hPD.1 hPD.2 hS rfl rfl dX7_isFine_12
abbrev rmX7_look : Room := { frames := 1, cells := 0, slots := 0, locals := 21 }
set_option maxRecDepth 100000 in
set_option maxHeartbeats 4000000 in
theorem kt_X7_look (l : Launch) (G : Gp) (h0 : Nat) (a0 : Nat → Nat) (f0 : Nat → Int32) (A0 : Nat → Nat → Int32) : CtrI l yX7_look cX7_look 1 (some .int) rmX7_look G [.ref h0] (wX7 G h0 a0 f0 A0) (f7_look f0 A0) (wX7 G h0 a0 f0 A0) := by
  obtain ⟨res, h⟩ : ∃ res, f7_look f0 A0 = res := ⟨_, rfl⟩
  rw [h]
  refine ctrI_of (cc := cX7_look) (maxL := 1) (ret := (some .int)) (by decide +kernel) rfl (Nat.le_of_ble_eq_true rfl) (fun p e s m below meth c DA C0 hP hD ls hl => ?_)
  have hPD : WD G DA (wX7 G h0 a0 f0 A0) s.heap := ⟨hP, hD⟩
  have hS : va_S DA s.heap s.heap [] := va_S.rf
  have hl : lv_has ls 1 [(0, .ref h0)] := hl
  obtain ⟨hx, hb, hml, hown, hts⟩ := C0.1
  have hK := C0.2.2.2.1
  unfold f7_look at h
  refine lv_aload_n hx hb dX7_look_0 rfl (lv_at hl 0 rfl) ?_
  refine va_get (D := G.1) (ci := 7) (v := .int (f0 3)) (C := RX7) (T := TX7) (N := 6) hx hb hts inlX7 hown hK hPD.1 0 rfl rfl 3 (by decide) (hts _ gw_10) (fun _ h9 => h9) rfl dX7_look_1 ?_
  refine lv_aload_n hx hb dX7_look_4 rfl (lv_at hl 0 rfl) ?_
  refine va_get (D := G.1) (ci := 7) (v := .int (f0 2)) (C := RX7) (T := TX7) (N := 6) hx hb hts inlX7 hown hK hPD.1 0 rfl rfl 2 (by decide) (hts _ gw_11) (fun _ h9 => h9) rfl dX7_look_5 ?_
  refine lv_icmp_ge (tgt := 25) hx hb dX7_look_8 (by decide) (fun cc1 => ?_) (fun cc1 => ?_)
  · have h := (if_pos cc1).symm.trans h
    refine lv_iconst (v := (-1)) hx hb dX7_look_25 (by decide) ?_
    subst h
    exact eI C0 hPD.1 hPD.2 hS rfl dX7_look_26
  · have h := (if_neg cc1).symm.trans h
    refine lv_aload_n hx hb dX7_look_11 rfl (lv_at hl 0 rfl) ?_
    refine va_get (D := G.1) (ci := 7) (v := .ref (a0 0)) (C := RX7) (T := TX7) (N := 6) hx hb hts inlX7 hown hK hPD.1 0 rfl rfl 0 (by decide) (hts _ gw_12) (fun _ h9 => h9) rfl dX7_look_12 ?_
    refine lv_aload_n hx hb dX7_look_15 rfl (lv_at hl 0 rfl) ?_
    refine va_get (D := G.1) (ci := 7) (v := .int (f0 3)) (C := RX7) (T := TX7) (N := 6) hx hb hts inlX7 hown hK hPD.1 0 rfl rfl 3 (by decide) (hts _ gw_10) (fun _ h9 => h9) rfl dX7_look_16 ?_
    refine kNI (As := [.ref (a0 0), .int (f0 3)]) (rest := []) C0 (kt_X9_at l G (a0 0) 260 (A0 0) (f0 3) (by decide)) gi_U_X9_at (host := "IdleCrimes") (index := 35) (List.mem_of_getElem? (i := 11) rfl) gw_6 gw_7 (n := 2) rfl (by decide +kernel) ⟨rfl, rfl, Nat.le_of_ble_eq_true rfl, Nat.le_of_ble_eq_true rfl⟩ hPD hS [1] [0] [0, 1] (wr := pick (wX7 G h0 a0 f0 A0) [0]) (wN := (wX7 G h0 a0 f0 A0)) rfl rfl rfl rfl rfl hl.1 (Nat.le_of_ble_eq_true rfl) dX7_look_19 (fun H locs hPD hS => ?_)
    refine lv_goto (tgt := 26) hx hb dX7_look_22 (by decide) ?_
    subst h
    exact eI C0 hPD.1 hPD.2 hS rfl dX7_look_26
abbrev rmX7_reader : Room := { frames := 0, cells := 0, slots := 0, locals := 0 }
set_option maxRecDepth 100000 in
set_option maxHeartbeats 4000000 in
theorem kt_X7_reader (l : Launch) (G : Gp) (h0 : Nat) (a0 : Nat → Nat) (f0 : Nat → Int32) (A0 : Nat → Nat → Int32) : CtrI l yX7_reader cX7_reader 1 (some .int) rmX7_reader G [.ref h0] (wX7 G h0 a0 f0 A0) (f7_reader f0 A0) (wX7 G h0 a0 f0 A0) := by
  obtain ⟨res, h⟩ : ∃ res, f7_reader f0 A0 = res := ⟨_, rfl⟩
  rw [h]
  refine ctrI_of (cc := cX7_reader) (maxL := 1) (ret := (some .int)) (by decide +kernel) rfl (Nat.le_of_ble_eq_true rfl) (fun p e s m below meth c DA C0 hP hD ls hl => ?_)
  have hPD : WD G DA (wX7 G h0 a0 f0 A0) s.heap := ⟨hP, hD⟩
  have hS : va_S DA s.heap s.heap [] := va_S.rf
  have hl : lv_has ls 1 [(0, .ref h0)] := hl
  obtain ⟨hx, hb, hml, hown, hts⟩ := C0.1
  have hK := C0.2.2.2.1
  unfold f7_reader at h
  refine lv_aload_n hx hb dX7_reader_0 rfl (lv_at hl 0 rfl) ?_
  refine va_get (D := G.1) (ci := 7) (v := .int (f0 3)) (C := RX7) (T := TX7) (N := 6) hx hb hts inlX7 hown hK hPD.1 0 rfl rfl 3 (by decide) (hts _ gw_10) (fun _ h9 => h9) rfl dX7_reader_1 ?_
  subst h
  exact eI C0 hPD.1 hPD.2 hS rfl dX7_reader_4
abbrev rmX9_within : Room := { frames := 0, cells := 0, slots := 0, locals := 0 }
set_option maxRecDepth 100000 in
set_option maxHeartbeats 4000000 in
theorem kt_X9_within (l : Launch) (G : Gp) (p0 : Int32) (p1 : Int32) (p2 : Int32) : CtrI l yX9_within cX9_within 3 (some .boolean) rmX9_within G [.int p0, .int p1, .int p2] ([] : va_W) (f9_within p0 p1 p2) ([] : va_W) := by
  obtain ⟨res, h⟩ : ∃ res, f9_within p0 p1 p2 = res := ⟨_, rfl⟩
  rw [h]
  refine ctrI_of (cc := cX9_within) (maxL := 3) (ret := (some .boolean)) (by decide +kernel) rfl (Nat.le_of_ble_eq_true rfl) (fun p e s m below meth c DA C0 hP hD ls hl => ?_)
  have hPD : WD G DA ([] : va_W) s.heap := ⟨hP, hD⟩
  have hS : va_S DA s.heap s.heap [] := va_S.rf
  have hl : lv_has ls 3 [(0, .int p0), (1, .int p1), (2, .int p2)] := hl
  obtain ⟨hx, hb, hml, hown, hts⟩ := C0.1
  have hK := C0.2.2.2.1
  unfold f9_within at h
  refine lv_iload_n hx hb dX9_within_0 rfl (lv_at hl 0 rfl) ?_
  refine lv_iload_n hx hb dX9_within_1 rfl (lv_at hl 1 rfl) ?_
  refine lv_icmp_lt (tgt := 14) hx hb dX9_within_2 (by decide) (fun cc1 => ?_) (fun cc1 => ?_)
  · have h := (if_pos cc1).symm.trans h
    refine lv_iconst (v := 0) hx hb dX9_within_14 (by decide) ?_
    subst h
    exact eZ C0 hPD.1 hPD.2 hS rfl rfl dX9_within_15
  · have h := (if_neg cc1).symm.trans h
    refine lv_iload_n hx hb dX9_within_5 rfl (lv_at hl 0 rfl) ?_
    refine lv_iload_n hx hb dX9_within_6 rfl (lv_at hl 2 rfl) ?_
    refine lv_icmp_gt (tgt := 14) hx hb dX9_within_7 (by decide) (fun cc1 => ?_) (fun cc1 => ?_)
    · have h := (if_pos cc1).symm.trans h
      refine lv_iconst (v := 0) hx hb dX9_within_14 (by decide) ?_
      subst h
      exact eZ C0 hPD.1 hPD.2 hS rfl rfl dX9_within_15
    · have h := (if_neg cc1).symm.trans h
      refine lv_iconst (v := 1) hx hb dX9_within_10 (by decide) ?_
      refine lv_goto (tgt := 15) hx hb dX9_within_11 (by decide) ?_
      subst h
      exact eZ C0 hPD.1 hPD.2 hS rfl rfl dX9_within_15
abbrev rmX7_step : Room := { frames := 0, cells := 0, slots := 0, locals := 0 }
set_option maxRecDepth 100000 in
set_option maxHeartbeats 4000000 in
theorem kt_X7_step (l : Launch) (G : Gp) (h0 : Nat) (a0 : Nat → Nat) (f0 : Nat → Int32) (A0 : Nat → Nat → Int32) : CtrV l yX7_step cX7_step 1 none rmX7_step G [.ref h0] (wX7 G h0 a0 f0 A0) (wX7 G h0 a0 (f7_step f0 A0) A0) := by
  obtain ⟨res, h⟩ : ∃ res, f7_step f0 A0 = res := ⟨_, rfl⟩
  rw [h]
  refine ctrV_of (cc := cX7_step) (maxL := 1) (ret := none) (by decide +kernel) rfl (Nat.le_of_ble_eq_true rfl) (fun p e s m below meth c DA C0 hP hD ls hl => ?_)
  have hPD : WD G DA (wX7 G h0 a0 f0 A0) s.heap := ⟨hP, hD⟩
  have hS : va_S DA s.heap s.heap [] := va_S.rf
  have hl : lv_has ls 1 [(0, .ref h0)] := hl
  obtain ⟨hx, hb, hml, hown, hts⟩ := C0.1
  have hK := C0.2.2.2.1
  unfold f7_step at h
  refine lv_aload_n hx hb dX7_step_0 rfl (lv_at hl 0 rfl) ?_
  refine lv_dup hx hb dX7_step_1 rfl ?_
  refine va_get (D := G.1) (ci := 7) (v := .int (f0 3)) (C := RX7) (T := TX7) (N := 6) hx hb hts inlX7 hown hK hPD.1 0 rfl rfl 3 (by decide) (hts _ gw_10) (fun _ h9 => h9) rfl dX7_step_2 ?_
  refine lv_iconst (v := 1) hx hb dX7_step_5 (by decide) ?_
  refine lv_iadd hx hb dX7_step_6 ?_
  refine va_put (D := G.1) (ci := 7) (v := .int ((f0 3) + 1)) (ty := .int) (C := RX7) (T := TX7) (N := 6) hx hb hts inlX7 tyX7 tyX7_ok nmX7 hown hK hPD.1 hPD.2 hS 0 rfl rfl 3 (by decide) (hts _ gw_10) (fun _ h9 => h9) rfl (by decide +kernel) rfl rfl (Nat.le_of_ble_eq_true rfl) dX7_step_7 (fun H locs hP hD hS => ?_)
  obtain ⟨f0_1, ef0_1, h⟩ := lvl h
  have hPD : WD G DA (wX7 G h0 a0 f0_1 A0) H := by rw [ef0_1]; exact ⟨hP, hD⟩
  clear ef0_1 hP hD
  subst h
  exact eV C0 hPD.1 hPD.2 hS dX7_step_10
abbrev rmX7_failAt : Room := { frames := 0, cells := 0, slots := 0, locals := 0 }
set_option maxRecDepth 100000 in
set_option maxHeartbeats 4000000 in
theorem kt_X7_failAt (l : Launch) (G : Gp) (h0 : Nat) (a0 : Nat → Nat) (f0 : Nat → Int32) (A0 : Nat → Nat → Int32) (p1 : Int32) (p2 : Int32) : CtrV l yX7_failAt cX7_failAt 3 none rmX7_failAt G [.ref h0, .int p1, .int p2] (wX7 G h0 a0 f0 A0) (wX7 G h0 a0 (f7_failAt f0 A0 p1 p2) A0) := by
  obtain ⟨res, h⟩ : ∃ res, f7_failAt f0 A0 p1 p2 = res := ⟨_, rfl⟩
  rw [h]
  refine ctrV_of (cc := cX7_failAt) (maxL := 3) (ret := none) (by decide +kernel) rfl (Nat.le_of_ble_eq_true rfl) (fun p e s m below meth c DA C0 hP hD ls hl => ?_)
  have hPD : WD G DA (wX7 G h0 a0 f0 A0) s.heap := ⟨hP, hD⟩
  have hS : va_S DA s.heap s.heap [] := va_S.rf
  have hl : lv_has ls 3 [(0, .ref h0), (1, .int p1), (2, .int p2)] := hl
  obtain ⟨hx, hb, hml, hown, hts⟩ := C0.1
  have hK := C0.2.2.2.1
  unfold f7_failAt at h
  refine lv_aload_n hx hb dX7_failAt_0 rfl (lv_at hl 0 rfl) ?_
  refine va_get (D := G.1) (ci := 7) (v := .int (f0 4)) (C := RX7) (T := TX7) (N := 6) hx hb hts inlX7 hown hK hPD.1 0 rfl rfl 4 (by decide) (hts _ gw_9) (fun _ h9 => h9) rfl dX7_failAt_1 ?_
  refine lv_if_ne (tgt := 17) hx hb dX7_failAt_4 (by decide) (fun cc1 => ?_) (fun cc1 => ?_)
  · have h := (if_neg cc1).symm.trans h
    subst h
    exact eV C0 hPD.1 hPD.2 hS dX7_failAt_17
  · have h := (if_pos cc1).symm.trans h
    refine lv_aload_n hx hb dX7_failAt_7 rfl (lv_at hl 0 rfl) ?_
    refine lv_iload_n hx hb dX7_failAt_8 rfl (lv_at hl 1 rfl) ?_
    refine va_put (D := G.1) (ci := 7) (v := .int p1) (ty := .int) (C := RX7) (T := TX7) (N := 6) hx hb hts inlX7 tyX7 tyX7_ok nmX7 hown hK hPD.1 hPD.2 hS 0 rfl rfl 4 (by decide) (hts _ gw_9) (fun _ h9 => h9) rfl (by decide +kernel) rfl rfl (Nat.le_of_ble_eq_true rfl) dX7_failAt_9 (fun H locs hP hD hS => ?_)
    obtain ⟨f0_1, ef0_1, h⟩ := lvl h
    have hPD : WD G DA (wX7 G h0 a0 f0_1 A0) H := by rw [ef0_1]; exact ⟨hP, hD⟩
    clear ef0_1 hP hD
    refine lv_aload_n hx hb dX7_failAt_12 rfl (lv_at hl 0 rfl) ?_
    refine lv_iload_n hx hb dX7_failAt_13 rfl (lv_at hl 2 rfl) ?_
    refine va_put (D := G.1) (ci := 7) (v := .int p2) (ty := .int) (C := RX7) (T := TX7) (N := 6) hx hb hts inlX7 tyX7 tyX7_ok nmX7 hown hK hPD.1 hPD.2 hS 0 rfl rfl 5 (by decide) (hts _ gw_13) (fun _ h9 => h9) rfl (by decide +kernel) rfl rfl (Nat.le_of_ble_eq_true rfl) dX7_failAt_14 (fun H locs hP hD hS => ?_)
    obtain ⟨f0_2, ef0_2, h⟩ := lvl h
    have hPD : WD G DA (wX7 G h0 a0 f0_2 A0) H := by rw [ef0_2]; exact ⟨hP, hD⟩
    clear ef0_2 hP hD
    subst h
    exact eV C0 hPD.1 hPD.2 hS dX7_failAt_17
abbrev rmX9_put : Room := { frames := 0, cells := 0, slots := 0, locals := 0 }
set_option maxRecDepth 100000 in
set_option maxHeartbeats 4000000 in
theorem kt_X9_put (l : Launch) (G : Gp) (q0 : Nat) (n0 : Nat) (xs0 : Nat → Int32) (p1 p2 : Int32) (hn0 : n0 < 2147483648) : CtrV l yX9_put cX9_put 3 none rmX9_put G [.ref q0, .int p1, .int p2] (wI G q0 n0 xs0) (wI G q0 n0 (f9_put n0 xs0 p1 p2)) := by
  refine ctrV_of (cc := cX9_put) (maxL := 3) (ret := none) (by decide) rfl (Nat.le_of_ble_eq_true rfl) (fun p e s m below meth c DA C0 hP hD ls hl => ?_)
  have hPD : WD G DA (wI G q0 n0 xs0) s.heap := ⟨hP, hD⟩
  have hS : va_S DA s.heap s.heap [] := va_S.rf
  have hl : lv_has ls 3 [(0, .ref q0), (1, .int p1), (2, .int p2)] := hl
  obtain ⟨hx, hb, hml, hown, hts⟩ := C0.1
  have hK := C0.2.2.2.1
  obtain ⟨xs1, exs⟩ : ∃ y, y = f9_put n0 xs0 p1 p2 := ⟨_, rfl⟩
  rw [← exs]
  unfold f9_put at exs
  refine lv_iload_n hx hb dX9_put_0 rfl (lv_at hl 1 rfl) ?_
  refine lv_if_lt (tgt := 14) hx hb dX9_put_1 (by decide) (fun cc1 => ?_) (fun cc1 => ?_)
  · rw [if_pos (Or.inl cc1)] at exs
    subst exs
    exact eV C0 hPD.1 hPD.2 hS dX9_put_14
  · refine lv_iload_n hx hb dX9_put_4 rfl (lv_at hl 1 rfl) ?_
    refine lv_aload_n hx hb dX9_put_5 rfl (lv_at hl 0 rfl) ?_
    refine va_alen (v := nI n0) hx hb hK hPD.1 0 1 rfl rfl rfl dX9_put_6 ?_
    refine lv_icmp_ge (tgt := 14) hx hb dX9_put_7 (by decide) (fun cc2 => ?_) (fun cc2 => ?_)
    · rw [if_pos (Or.inr ((idx_cond hn0 cc1).mp cc2))] at exs
      subst exs
      exact eV C0 hPD.1 hPD.2 hS dX9_put_14
    · have hi : ¬ (p1 < 0 ∨ n0 ≤ p1.toNatClampNeg) := fun h => h.elim cc1 (fun h => cc2 ((idx_cond hn0 cc1).mpr h))
      rw [if_neg hi] at exs
      subst exs
      refine lv_aload_n hx hb dX9_put_10 rfl (lv_at hl 0 rfl) ?_
      refine lv_iload_n hx hb dX9_put_11 rfl (lv_at hl 1 rfl) ?_
      refine lv_iload_n hx hb dX9_put_12 rfl (lv_at hl 2 rfl) ?_
      refine va_iast hx hb hK hPD.1 hPD.2 hS 0 1 rfl rfl hi dX9_put_13 (fun H locs hP hD hS => ?_)
      exact eV C0 hP hD hS dX9_put_14
abbrev rmX0_repeat : Room := { frames := 1, cells := 0, slots := 0, locals := 22 }
set_option maxRecDepth 100000 in
set_option maxHeartbeats 4000000 in
theorem ww_f0_repeat_b42  (C0 : Cx cX0_repeat 7 none RX0 p s m args meth c G DA) {h0 : Nat} {a0 : Nat → Nat} {h1 : Nat} {a1 : Nat → Nat} {A1 : Nat → Nat → Int32} {p2 : Int32} {p3 : Int32} {p4 : Int32}  {k42 : (Nat → Nat → Int32) → (Nat → Int32) → (Nat → Int32) → Int32 → Int32 → Option ((Nat → Nat → Int32) × (Nat → Int32) × (Nat → Int32))} {res : (Nat → Nat → Int32) × (Nat → Int32) × (Nat → Int32)}  (hk42 : ∀ (A0 : Nat → Nat → Int32) (f0 : Nat → Int32) (f1 : Nat → Int32) (l5 : Int32) (l6 : Int32), k42 A0 f0 f1 l5 l6 = some res → ∀ (H : Heap) (locs : List Loc) (ls : Array Slot), WD G DA (wX0 G h0 a0 f0 A0 ++ (wX7 G h1 a1 f1 A1)) H → va_S DA s.heap H locs → lv_has ls 7 [(0, .ref h0), (1, .ref h1), (2, .int p2), (3, .int p3), (4, .int p4), (5, .int l5), (6, .int l6)] → W p l e rmX0_repeat s m args below meth c H locs 0 0 (MQ below (QV G DA (wX0 G h0 a0 res.2.1 res.1 ++ (wX7 G h1 a1 res.2.2 A1))) args s 0 0 DA) (F0 m 42 ls [])) : ∀ (A0 : Nat → Nat → Int32) (f0 : Nat → Int32) (f1 : Nat → Int32) (l5 : Int32) (l6 : Int32), f0_repeat_b42 A1 p2 p3 p4  k42 A0 f0 f1 l5 l6 = some res → ∀ (H : Heap) (locs : List Loc) (ls : Array Slot), WD G DA (wX0 G h0 a0 f0 A0 ++ (wX7 G h1 a1 f1 A1)) H → va_S DA s.heap H locs → lv_has ls 7 [(0, .ref h0), (1, .ref h1), (2, .int p2), (3, .int p3), (4, .int p4), (5, .int l5), (6, .int l6)] → W p l e rmX0_repeat s m args below meth c H locs 0 0 (MQ below (QV G DA (wX0 G h0 a0 res.2.1 res.1 ++ (wX7 G h1 a1 res.2.2 A1))) args s 0 0 DA) (F0 m 42 ls []) := by
  obtain ⟨hx, hb, hml, hown, hts⟩ := C0.1
  have hK := C0.2.2.2.1
  intro A0 f0 f1 l5 l6 h _ _ _ hPD hS hl
  unfold f0_repeat_b42 at h
  refine lv_iload hx hb dX0_repeat_42 (lv_at hl 6 rfl) ?_
  refine lv_iload hx hb dX0_repeat_44 (lv_at hl 5 rfl) ?_
  refine lv_iload_n hx hb dX0_repeat_46 rfl (lv_at hl 3 rfl) ?_
  refine lv_imul hx hb dX0_repeat_47 ?_
  refine lv_icmp_ge (tgt := 92) hx hb dX0_repeat_48 (by decide) (fun cc1 => ?_) (fun cc1 => ?_)
  · have h := (if_pos cc1).symm.trans h
    obtain rfl := Option.some.inj h
    exact eV C0 hPD.1 hPD.2 hS dX0_repeat_92
  · have h := (if_neg cc1).symm.trans h
    refine lv_aload_n hx hb dX0_repeat_51 rfl (lv_at hl 0 rfl) ?_
    refine va_get (D := G.1) (ci := 0) (v := .ref (a0 0)) (C := RX0) (T := TX0) (N := 2) hx hb hts inlX0 hown hK hPD.1 0 rfl rfl 0 (by decide) (hts _ gw_1) (fun _ h9 => h9) rfl dX0_repeat_52 ?_
    refine lv_aload_n hx hb dX0_repeat_55 rfl (lv_at hl 0 rfl) ?_
    refine va_get (D := G.1) (ci := 0) (v := .int (f0 1)) (C := RX0) (T := TX0) (N := 2) hx hb hts inlX0 hown hK hPD.1 0 rfl rfl 1 (by decide) (hts _ gw_0) (fun _ h9 => h9) rfl dX0_repeat_56 ?_
    refine lv_aload_n hx hb dX0_repeat_59 rfl (lv_at hl 0 rfl) ?_
    refine va_get (D := G.1) (ci := 0) (v := .ref (a0 0)) (C := RX0) (T := TX0) (N := 2) hx hb hts inlX0 hown hK hPD.1 0 rfl rfl 0 (by decide) (hts _ gw_1) (fun _ h9 => h9) rfl dX0_repeat_60 ?_
    refine lv_aload_n hx hb dX0_repeat_63 rfl (lv_at hl 0 rfl) ?_
    refine va_get (D := G.1) (ci := 0) (v := .int (f0 1)) (C := RX0) (T := TX0) (N := 2) hx hb hts inlX0 hown hK hPD.1 0 rfl rfl 1 (by decide) (hts _ gw_0) (fun _ h9 => h9) rfl dX0_repeat_64 ?_
    refine lv_iload hx hb dX0_repeat_67 (lv_at hl 5 rfl) ?_
    refine lv_isub hx hb dX0_repeat_69 ?_
    refine kNI (As := [.ref (a0 0), .int ((f0 1) - l5)]) (rest := [.int (f0 1), .ref (a0 0)]) C0 (kt_X9_at l G (a0 0) 48 (A0 0) ((f0 1) - l5) (by decide)) gi_U_X9_at (host := "IdleCrimes") (index := 25) (List.mem_of_getElem? (i := 15) rfl) gw_6 gw_7 (n := 2) rfl (by decide +kernel) ⟨rfl, rfl, Nat.le_of_ble_eq_true rfl, Nat.le_of_ble_eq_true rfl⟩ hPD hS [1] [0, 2, 3] [0, 3, 1, 2] (wr := pick (wX0 G h0 a0 f0 A0 ++ (wX7 G h1 a1 f1 A1)) [0, 2, 3]) (wN := (wX0 G h0 a0 f0 A0 ++ (wX7 G h1 a1 f1 A1))) rfl rfl rfl rfl rfl hl.1 (Nat.le_of_ble_eq_true rfl) dX0_repeat_70 (fun H locs hPD hS => ?_)
    obtain ⟨z_1, ez_1, h⟩ := lvl h
    have kc := kt_X9_put l G (a0 0) 48 (A0 0) (f0 1) (f9_at 48 (A0 0) ((f0 1) - l5)) (by decide)
    rw [← ez_1] at kc
    clear ez_1
    refine kNV (As := [.ref (a0 0), .int (f0 1), .int (f9_at 48 (A0 0) ((f0 1) - l5))]) (rest := []) C0 (kc) gi_U_X9_put (host := "IdleCrimes") (index := 75) (List.mem_of_getElem? (i := 16) rfl) gw_6 gw_19 (n := 3) rfl (by decide +kernel) ⟨rfl, rfl, Nat.le_of_ble_eq_true rfl, Nat.le_of_ble_eq_true rfl⟩ hPD hS [1] [0, 2, 3] [0, 3, 1, 2] (wr := pick (wX0 G h0 a0 f0 A0 ++ (wX7 G h1 a1 f1 A1)) [0, 2, 3]) (wN := (wX0 G h0 a0 f0 (updA A0 0 z_1) ++ (wX7 G h1 a1 f1 A1))) rfl rfl rfl rfl rfl hl.1 (Nat.le_of_ble_eq_true rfl) dX0_repeat_73 (fun H locs hPD hS => ?_)
    obtain ⟨A0_2, eA0_2, h⟩ := lvl h
    have hPD : WD G DA (wX0 G h0 a0 f0 A0_2 ++ (wX7 G h1 a1 f1 A1)) H := by rw [eA0_2]; exact hPD
    clear eA0_2
    refine lv_aload_n hx hb dX0_repeat_76 rfl (lv_at hl 0 rfl) ?_
    refine lv_dup hx hb dX0_repeat_77 rfl ?_
    refine va_get (D := G.1) (ci := 0) (v := .int (f0 1)) (C := RX0) (T := TX0) (N := 2) hx hb hts inlX0 hown hK hPD.1 0 rfl rfl 1 (by decide) (hts _ gw_0) (fun _ h9 => h9) rfl dX0_repeat_78 ?_
    refine lv_iconst (v := 1) hx hb dX0_repeat_81 (by decide) ?_
    refine lv_iadd hx hb dX0_repeat_82 ?_
    refine va_put (D := G.1) (ci := 0) (v := .int ((f0 1) + 1)) (ty := .int) (C := RX0) (T := TX0) (N := 2) hx hb hts inlX0 tyX0 tyX0_ok nmX0 hown hK hPD.1 hPD.2 hS 0 rfl rfl 1 (by decide) (hts _ gw_0) (fun _ h9 => h9) rfl (by decide +kernel) rfl rfl (Nat.le_of_ble_eq_true rfl) dX0_repeat_83 (fun H locs hP hD hS => ?_)
    obtain ⟨f0_3, ef0_3, h⟩ := lvl h
    have hPD : WD G DA (wX0 G h0 a0 f0_3 A0_2 ++ (wX7 G h1 a1 f1 A1)) H := by rw [ef0_3]; exact ⟨hP, hD⟩
    clear ef0_3 hP hD
    refine lv_iinc (v := l6 + 1) (lv' := [(6, .int (l6 + 1)), (0, .ref h0), (1, .ref h1), (2, .int p2), (3, .int p3), (4, .int p4), (5, .int l5)]) hx hb dX0_repeat_86 hl (k := 6) rfl rfl (by decide) rfl (fun ls hl => ?_)
    refine lv_goto (tgt := 42) hx hb dX0_repeat_89 (by decide) ?_
    exact hk42 A0_2 f0_3 f1 l5 (l6 + 1) h _ _ _ hPD hS (lv_sub hl [1, 2, 3, 4, 5, 6, 0] rfl)
set_option maxRecDepth 100000 in
set_option maxHeartbeats 4000000 in
theorem ww_f0_repeat_l42  (C0 : Cx cX0_repeat 7 none RX0 p s m args meth c G DA) {h0 : Nat} {a0 : Nat → Nat} {h1 : Nat} {a1 : Nat → Nat} {A1 : Nat → Nat → Int32} {p2 : Int32} {p3 : Int32} {p4 : Int32}   {res : (Nat → Nat → Int32) × (Nat → Int32) × (Nat → Int32)}  : ∀ (n : Nat) (A0 : Nat → Nat → Int32) (f0 : Nat → Int32) (f1 : Nat → Int32) (l5 : Int32) (l6 : Int32), f0_repeat_l42 A1 p2 p3 p4  n A0 f0 f1 l5 l6 = some res → ∀ (H : Heap) (locs : List Loc) (ls : Array Slot), WD G DA (wX0 G h0 a0 f0 A0 ++ (wX7 G h1 a1 f1 A1)) H → va_S DA s.heap H locs → lv_has ls 7 [(0, .ref h0), (1, .ref h1), (2, .int p2), (3, .int p3), (4, .int p4), (5, .int l5), (6, .int l6)] → W p l e rmX0_repeat s m args below meth c H locs 0 0 (MQ below (QV G DA (wX0 G h0 a0 res.2.1 res.1 ++ (wX7 G h1 a1 res.2.2 A1))) args s 0 0 DA) (F0 m 42 ls []) := by
  intro n
  induction n with
  | zero => intro A0 f0 f1 l5 l6 h; cases h
  | succ n ih => intro A0 f0 f1 l5 l6 h; exact ww_f0_repeat_b42 C0  ih A0 f0 f1 l5 l6 h
set_option maxRecDepth 100000 in
set_option maxHeartbeats 4000000 in
theorem kt_X0_repeat (l : Launch) (G : Gp) (h0 : Nat) (a0 : Nat → Nat) (h1 : Nat) (a1 : Nat → Nat) (f0 : Nat → Int32) (A0 : Nat → Nat → Int32) (f1 : Nat → Int32) (A1 : Nat → Nat → Int32) (p2 : Int32) (p3 : Int32) (p4 : Int32) : ∀ {r : (Nat → Nat → Int32) × (Nat → Int32) × (Nat → Int32)}, f0_repeat f0 A0 f1 A1 p2 p3 p4 = some r → CtrV l yX0_repeat cX0_repeat 7 none rmX0_repeat G [.ref h0, .ref h1, .int p2, .int p3, .int p4] (wX0 G h0 a0 f0 A0 ++ (wX7 G h1 a1 f1 A1)) (wX0 G h0 a0 r.2.1 r.1 ++ (wX7 G h1 a1 r.2.2 A1)) := by
  intro res h
  refine ctrV_of (cc := cX0_repeat) (maxL := 7) (ret := none) (by decide +kernel) rfl (Nat.le_of_ble_eq_true rfl) (fun p e s m below meth c DA C0 hP hD ls hl => ?_)
  have hPD : WD G DA (wX0 G h0 a0 f0 A0 ++ (wX7 G h1 a1 f1 A1)) s.heap := ⟨hP, hD⟩
  have hS : va_S DA s.heap s.heap [] := va_S.rf
  have hl : lv_has ls 7 [(0, .ref h0), (1, .ref h1), (2, .int p2), (3, .int p3), (4, .int p4)] := hl
  obtain ⟨hx, hb, hml, hown, hts⟩ := C0.1
  have hK := C0.2.2.2.1
  unfold f0_repeat at h
  refine lv_aload_n hx hb dX0_repeat_0 rfl (lv_at hl 0 rfl) ?_
  refine va_get (D := G.1) (ci := 0) (v := .int (f0 1)) (C := RX0) (T := TX0) (N := 2) hx hb hts inlX0 hown hK hPD.1 0 rfl rfl 1 (by decide) (hts _ gw_0) (fun _ h9 => h9) rfl dX0_repeat_1 ?_
  refine lv_iload_n hx hb dX0_repeat_4 rfl (lv_at hl 2 rfl) ?_
  refine lv_isub hx hb dX0_repeat_5 ?_
  refine lv_istore (lv' := [(5, .int ((f0 1) - p2)), (0, .ref h0), (1, .ref h1), (2, .int p2), (3, .int p3), (4, .int p4)]) hx hb dX0_repeat_6 hl (by decide) rfl (fun ls hl => ?_)
  refine lv_aload_n hx hb dX0_repeat_8 rfl (lv_at hl 2 rfl) ?_
  refine kVI (As := []) (rest := []) C0 (kt_X7_isFine l G h1 a1 f1 A1) gi_V_X0_33_X7_isFine (n := 0) rfl (by decide +kernel) rfl ⟨rfl, rfl, Nat.le_of_ble_eq_true rfl, Nat.le_of_ble_eq_true rfl⟩ hPD hS 2 7 rfl rfl rfl [2, 3] [0, 1] [0, 1, 2, 3] (wr := (wX0 G h0 a0 f0 A0)) (wN := (wX0 G h0 a0 f0 A0 ++ (wX7 G h1 a1 f1 A1))) rfl rfl rfl rfl rfl hl.1 (Nat.le_of_ble_eq_true rfl) dX0_repeat_9 (fun H locs hPD hS => ?_)
  refine lv_if_ne (tgt := 16) hx hb dX0_repeat_12 (by decide) (fun cc1 => ?_) (fun cc1 => ?_)
  · have h := (if_neg cc1).symm.trans h
    refine lv_aload_n hx hb dX0_repeat_16 rfl (lv_at hl 1 rfl) ?_
    refine va_get (D := G.1) (ci := 0) (v := .int (f0 1)) (C := RX0) (T := TX0) (N := 2) hx hb hts inlX0 hown hK hPD.1 0 rfl rfl 1 (by decide) (hts _ gw_0) (fun _ h9 => h9) rfl dX0_repeat_17 ?_
    refine lv_iload hx hb dX0_repeat_20 (lv_at hl 0 rfl) ?_
    refine lv_iload_n hx hb dX0_repeat_22 rfl (lv_at hl 4 rfl) ?_
    refine lv_imul hx hb dX0_repeat_23 ?_
    refine lv_iadd hx hb dX0_repeat_24 ?_
    refine lv_bipush (v := 48) hx hb dX0_repeat_25 (by decide) ?_
    refine lv_icmp_le (tgt := 39) hx hb dX0_repeat_27 (by decide) (fun cc1 => ?_) (fun cc1 => ?_)
    · have h := (if_pos cc1).symm.trans h
      refine lv_iconst (v := 0) hx hb dX0_repeat_39 (by decide) ?_
      refine lv_istore (lv' := [(6, .int 0), (5, .int ((f0 1) - p2)), (0, .ref h0), (1, .ref h1), (2, .int p2), (3, .int p3), (4, .int p4)]) hx hb dX0_repeat_40 hl (by decide) rfl (fun ls hl => ?_)
      exact ww_f0_repeat_l42 C0 NF A0 f0 f1 ((f0 1) - p2) 0 h _ _ _ hPD hS (lv_sub hl [2, 3, 4, 5, 6, 1, 0] rfl)
    · have h := (if_neg cc1).symm.trans h
      refine lv_aload_n hx hb dX0_repeat_30 rfl (lv_at hl 2 rfl) ?_
      refine lv_bipush (v := 6) hx hb dX0_repeat_31 (by decide) ?_
      refine lv_iload hx hb dX0_repeat_33 (lv_at hl 5 rfl) ?_
      obtain ⟨z_4, ez_4, h⟩ := lvl h
      have kc := kt_X7_failAt l G h1 a1 f1 A1 6 p4
      rw [← ez_4] at kc
      clear ez_4
      refine kVV (As := [.int 6, .int p4]) (rest := []) C0 (kc) gi_V_X0_71_X7_failAt (n := 2) rfl (by decide +kernel) rfl ⟨rfl, rfl, Nat.le_of_ble_eq_true rfl, Nat.le_of_ble_eq_true rfl⟩ hPD hS 2 7 rfl rfl rfl [2, 3] [0, 1] [0, 1, 2, 3] (wr := (wX0 G h0 a0 f0 A0)) (wN := (wX0 G h0 a0 f0 A0 ++ (wX7 G h1 a1 z_4 A1))) rfl rfl rfl rfl rfl hl.1 (Nat.le_of_ble_eq_true rfl) dX0_repeat_35 (fun H locs hPD hS => ?_)
      obtain rfl := Option.some.inj h
      exact eV C0 hPD.1 hPD.2 hS dX0_repeat_38
  · have h := (if_pos cc1).symm.trans h
    obtain rfl := Option.some.inj h
    exact eV C0 hPD.1 hPD.2 hS dX0_repeat_15
abbrev rmX7_placeOf : Room := { frames := 1, cells := 0, slots := 0, locals := 22 }
set_option maxRecDepth 100000 in
set_option maxHeartbeats 4000000 in
theorem kt_X7_placeOf (l : Launch) (G : Gp) (p0 : Int32) : CtrI l yX7_placeOf cX7_placeOf 1 (some .int) rmX7_placeOf G [.int p0] ([] : va_W) (f7_placeOf p0) ([] : va_W) := by
  obtain ⟨res, h⟩ : ∃ res, f7_placeOf p0 = res := ⟨_, rfl⟩
  rw [h]
  refine ctrI_of (cc := cX7_placeOf) (maxL := 1) (ret := (some .int)) (by decide +kernel) rfl (Nat.le_of_ble_eq_true rfl) (fun p e s m below meth c DA C0 hP hD ls hl => ?_)
  have hPD : WD G DA ([] : va_W) s.heap := ⟨hP, hD⟩
  have hS : va_S DA s.heap s.heap [] := va_S.rf
  have hl : lv_has ls 1 [(0, .int p0)] := hl
  obtain ⟨hx, hb, hml, hown, hts⟩ := C0.1
  have hK := C0.2.2.2.1
  unfold f7_placeOf at h
  refine lv_iload_n hx hb dX7_placeOf_0 rfl (lv_at hl 0 rfl) ?_
  refine lv_bipush (v := 97) hx hb dX7_placeOf_1 (by decide) ?_
  refine lv_bipush (v := 112) hx hb dX7_placeOf_3 (by decide) ?_
  refine kNI (As := [.int p0, .int 97, .int 112]) (rest := []) C0 (kt_X9_within l G  p0 97 112) gi_U_X9_within (host := "IdleCrimes") (index := 65) (List.mem_of_getElem? (i := 13) rfl) gw_6 gw_25 (n := 3) rfl (by decide +kernel) ⟨rfl, rfl, Nat.le_of_ble_eq_true rfl, Nat.le_of_ble_eq_true rfl⟩ hPD hS [] [] [] (wr := ([] : va_W)) (wN := ([] : va_W)) rfl rfl rfl rfl rfl hl.1 (Nat.le_of_ble_eq_true rfl) dX7_placeOf_5 (fun H locs hPD hS => ?_)
  refine lv_if_eq (tgt := 18) hx hb dX7_placeOf_8 (by decide) (fun cc1 => ?_) (fun cc1 => ?_)
  · have h := (if_pos cc1).symm.trans h
    refine lv_iconst (v := (-1)) hx hb dX7_placeOf_18 (by decide) ?_
    subst h
    exact eI C0 hPD.1 hPD.2 hS rfl dX7_placeOf_19
  · have h := (if_neg cc1).symm.trans h
    refine lv_iload_n hx hb dX7_placeOf_11 rfl (lv_at hl 0 rfl) ?_
    refine lv_bipush (v := 97) hx hb dX7_placeOf_12 (by decide) ?_
    refine lv_isub hx hb dX7_placeOf_14 ?_
    refine lv_goto (tgt := 19) hx hb dX7_placeOf_15 (by decide) ?_
    subst h
    exact eI C0 hPD.1 hPD.2 hS rfl dX7_placeOf_19
end WALK
