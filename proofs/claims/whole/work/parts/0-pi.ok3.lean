theorem ok_check : OK_check INV := by
  rintro σf σA fW AW μf μA x1 hI
  have hI0 := hI
  obtain ⟨T, nx, ⟨b1, b2, b3, b4, b5, b6, b7⟩, hS, hT, -, -, -, -⟩ := hI
  obtain ⟨sz, b, t1, t2, t3, t4, t5⟩ := hT.bytes
  obtain ⟨s1, -⟩ := hS
  unfold f9_check f10_check
  rw [in_eq]
  rcases within_c x1 (A := 0) (B := 16) (a := 0) (b := 16) rfl rfl (by decide) (by decide) with ⟨h, _⟩ | ⟨h, n, _, hn, rfl⟩
  · exact ⟨(-2, σf 1), (-2, μf), by rw [if_pos h], by rw [if_pos h], rfl, by rw [cset_id]; exact hI0⟩
  rw [h, if_neg n10, if_neg n10, holds_c t2 t1 (by omega), t3]
  by_cases hm : n ≤ sz
  · have hb1 : ∀ i, i < n → σA 1 0 i = nI (b i) := fun i hi => (t5 i (by omega)).1
    have hb2 : ∀ i, i < n → μA 7 i &&& 255 = nI (b i) := fun i hi => (t5 i (by omega)).2
    simp (disch := omega) only [if_pos hm, eqI, litI, letv, eqI, leI, ltI, addI, mulI, subI, clI, at_nI, put_nI, nI_s, orI, shl1I, ifb0, ifb1, Option.bind_some, gx, ux, Nat.add_zero, Nat.zero_add, Nat.not_lt_zero, false_or, or_false, Nat.mul_zero, Nat.zero_mul, if_neg]
    have hn' : n ≤ 260 := by omega
    have b3' : upd μf 8 (nI 0) 6 = nI T := b3
    obtain ⟨r, r', e1, e2, e3, e4, e5⟩ := loop_rel (fun k (s : (Nat → Int32) × Int32) => f9_check_l34 (σf 0) (σA 0) (σA 1) (σf 2) (σA 2) (σf 3) (σA 3) (nI n) k s.1 s.2) (fun k (s : (Nat → Int32) × Int32) => f10_check_l28 μA (nI n) k s.1 s.2) n
      (fun j s t => s = (f7_open (σf 1) (σA 1) (nI n), nI j) ∧ t = (upd μf 8 (nI 0), nI j)) (fun a b => ∃ r r', a = some r ∧ b = some r' ∧ r.1 = r'.1 ∧ r.2 = f7_open (σf 1) (σA 1) (nI n) ∧ r'.2 = upd μf 8 (nI 0)) (by omega) (by
        rintro k m j s t hj ⟨rfl, rfl⟩
        simp (disch := omega) only [f9_check_l34, f9_check_b34, f10_check_l28, f10_check_b28, litI, letv, eqI, leI, ltI, addI, mulI, subI, clI, at_nI, put_nI, nI_s, orI, shl1I, ifb0, ifb1, Option.bind_some, gx, ux, Nat.add_zero, Nat.zero_add, Nat.not_lt_zero, false_or, or_false, Nat.mul_zero, Nat.zero_mul]
        by_cases hjn : n ≤ j
        · left
          rw [if_pos hjn, if_pos hjn]
          exact ⟨_, _, rfl, rfl, rfl, rfl, rfl⟩
        · obtain ⟨⟨v, v1, v2, v3⟩, -⟩ := s1 j (by omega)
          have hv := t4 j
          simp (disch := omega) only [if_neg hjn, f9_check_b67, octet_c hn' hb2, byteAt_c open_2 hn' hb1, told9 b1 b2, told10 b1 b3', litI, letv, eqI, leI, ltI, addI, mulI, subI, clI, at_nI, put_nI, nI_s, orI, shl1I, ifb0, ifb1, Option.bind_some, gx, ux, Nat.add_zero, Nat.zero_add, Nat.not_lt_zero, false_or, or_false, Nat.mul_zero, Nat.zero_mul, if_neg, v2, v3]
          by_cases q : T.testBit j = true
          · simp (disch := omega) only [q, not_true, if_false, if_neg, eqI, v3]
            by_cases u : b j = v
            · right
              simp (disch := omega) only [u, if_true]
              exact ⟨by omega, (_, _), (_, _), rfl, rfl, rfl, rfl⟩
            · left
              simp (disch := omega) only [u, if_false]
              exact ⟨_, _, rfl, rfl, rfl, rfl, rfl⟩
          · simp (disch := omega) only [q, not_false_eq_true, if_true, if_neg, eqI]
            by_cases u : b j = 255
            · right
              simp (disch := omega) only [u, if_true]
              exact ⟨by omega, (_, _), (_, _), rfl, rfl, rfl, rfl⟩
            · left
              simp (disch := omega) only [u, if_false]
              exact ⟨_, _, rfl, rfl, rfl, rfl, rfl⟩) (_, _) (_, _) ⟨rfl, rfl⟩
    refine ⟨r, r', e1, e2, e3, ?_⟩
    rw [e4, e5]
    exact inv_tape0 hI0 rfl rfl
  · simp (disch := omega) only [if_neg hm, litI, letv, eqI, leI, ltI, addI, mulI, subI, clI, at_nI, put_nI, nI_s, orI, shl1I, ifb0, ifb1, Option.bind_some, gx, ux, Nat.add_zero, Nat.zero_add, Nat.not_lt_zero, false_or, or_false, Nat.mul_zero, Nat.zero_mul, if_true]
    exact ⟨_, _, rfl, rfl, rfl, by rw [cset_id]; exact hI0⟩
theorem ok_constableIs : OK_constableIs INV := by
  rintro σf σA fW AW μf μA x1 x2 hI
  have hI0 := hI
  obtain ⟨T, nx, -, hS, -, hW, -, -, -⟩ := hI
  obtain ⟨s1, ⟨F, hF, e5, s2⟩, ⟨hr, -, -, -, s6⟩, -⟩ := hS
  unfold f9_constableIs f10_constableIs
  rcases within_c x1 (A := 0) (B := 7) (a := 0) (b := 7) rfl rfl (by decide) (by decide) with ⟨h, _⟩ | ⟨h, c, _, hc, rfl⟩
  · rw [isTold6_no h, isMan10_no h]
    exact ⟨_, _, rfl, rfl, rfl, hI0⟩
  have hc8 : c < 8 := by omega
  obtain ⟨g1, w, g2, g3, g4, g5⟩ := s2 c hc8
  obtain ⟨v, hv, v2, v3⟩ := s6 c hc8
  obtain ⟨l, hl, l1, l2, -⟩ := hW c hc8
  rw [show f9_within (nI c) 0 (8 - 1) = 1 from h]
  simp (disch := omega) only [man9 hF e5, man10 (A := μA) (fun c hc => (s2 c hc).1), litI, letv, eqI, leI, ltI, addI, mulI, subI, clI, at_nI, put_nI, nI_s, orI, shl1I, ifb0, ifb1, Option.bind_some, gx, ux, Nat.add_zero, Nat.zero_add, Nat.not_lt_zero, false_or, or_false, Nat.mul_zero, Nat.zero_mul, if_neg, g3, g4, v2, v3, l1, l2]
  by_cases q : F.testBit c = true
  · simp (disch := omega) only [q, not_true, if_false]
    by_cases k0 : x2 = nI 0
    · simp (disch := omega) only [k0, if_true]; exact ⟨_, _, rfl, rfl, rfl, hI0⟩
    by_cases k1 : x2 = nI 1
    · simp (disch := omega) only [k1, if_true, eqI, if_neg]; exact ⟨_, _, rfl, rfl, rfl, hI0⟩
    by_cases k2 : x2 = nI 2
    · simp (disch := omega) only [k2, if_true, eqI, if_neg]; exact ⟨_, _, rfl, rfl, rfl, hI0⟩
    simp (disch := omega) only [k0, k1, k2, if_false]; exact ⟨_, _, rfl, rfl, rfl, hI0⟩
  · simp (disch := omega) only [q, not_false_eq_true, if_true]
    exact ⟨_, _, rfl, rfl, rfl, hI0⟩
