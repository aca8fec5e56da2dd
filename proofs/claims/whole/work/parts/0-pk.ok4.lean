theorem ok_worst : OK_worst INV := by
  rintro σf σA fW AW μf μA hI
  have hI0 := hI
  obtain ⟨T, nx, ⟨b1, b2, b3, b4, b5, b6, b7⟩, ⟨s1, -⟩, -, -, -, -, -⟩ := hI
  unfold f9_worst f10_worst
  obtain ⟨r, e1, e2⟩ := loop_rel (fun k (s : Int32 × Int32 × Int32) => f9_worst_l7 (σf 0) (σA 0) (σf 2) (σA 2) (σf 3) (σA 3) k s.1 s.2.1 s.2.2) (fun k (s : Int32 × Int32 × Int32) => f10_worst_l7 μf μA k s.1 s.2.1 s.2.2) 16
    (fun j s t => ∃ m w, s = (m, w, nI j) ∧ t = (w, m, nI j)) (fun a b => ∃ r, a = some r ∧ b = some r) (by decide) (by
      rintro k k' j s t hj ⟨m, w, rfl, rfl⟩
      simp (disch := omega) only [f9_worst_l7, f9_worst_b7, f10_worst_l7, f10_worst_b7, litI, letv, eqI, leI, ltI, addI, mulI, subI, clI, at_nI, put_nI, nI_s, orI, shl1I, ifb0, ifb1, Option.bind_some, gx, ux, Nat.add_zero, Nat.zero_add, Nat.not_lt_zero, false_or, or_false, Nat.mul_zero, Nat.zero_mul]
      by_cases h : 16 ≤ j
      · left
        simp (disch := omega) only [if_pos h]
        exact ⟨_, rfl, rfl⟩
      · obtain ⟨⟨v, v1, v2, v3⟩, ⟨g, g1, g2, g3⟩, -⟩ := s1 j (by omega)
        right
        simp (disch := omega) only [if_neg h, told9 b1 b2, told10 b1 b3, litI, letv, eqI, leI, ltI, addI, mulI, subI, clI, at_nI, put_nI, nI_s, orI, shl1I, ifb0, ifb1, Option.bind_some, gx, ux, Nat.add_zero, Nat.zero_add, Nat.not_lt_zero, false_or, or_false, Nat.mul_zero, Nat.zero_mul, if_neg, v2, v3, g2, g3]
        by_cases q : T.testBit j = true
        · simp (disch := omega) only [q, not_true, if_false]
          by_cases u : nI (v * g) ≤ m
          · simp (disch := omega) only [u, if_true, Int32.not_lt.mpr u, if_false]
            exact ⟨by omega, (_, _, _), (_, _, _), rfl, rfl, _, _, rfl, rfl⟩
          · simp (disch := omega) only [u, if_false, Int32.not_le.mp u, if_true]
            exact ⟨by omega, (_, _, _), (_, _, _), rfl, rfl, _, _, rfl, rfl⟩
        · simp (disch := omega) only [q, not_false_eq_true, if_true]
          exact ⟨by omega, (_, _, _), (_, _, _), rfl, rfl, _, _, rfl, rfl⟩) (-1, -2, 0) (-2, -1, 0) ⟨_, _, rfl, rfl⟩
  exact ⟨r, r, e1, e2, rfl, hI0⟩
theorem wages_c {fs : Nat → Int32} {As : Nat → Nat → Int32} {f : Nat → Int32} {A : Nat → Nat → Int32} {F : Nat} (hF : F < 256) (e5 : fs 5 = nI F) (hm : ∀ c, c < 8 → A 0 (48 + c) = if F.testBit c then 1 else 0) (hw : ∀ c, c < 8 → As 4 c = A 0 (64 + c)) : ∃ r, f6_wages fs As = some r ∧ f10_wages f A = some r := by
  unfold f6_wages f9_sumOf f10_wages
  rw [e5]
  obtain ⟨r, e1, e2⟩ := loop_rel (fun k (s : Int32 × Int32) => f9_sumOf_l4 8 (As 4) (nI F) k s.1 s.2) (fun k (s : Int32 × Int32) => f10_wages_l4 f A k s.1 s.2) 8
    (fun j s t => ∃ m, s = (m, nI j) ∧ t = (m, nI j)) (fun a b => ∃ r, a = some r ∧ b = some r) (by decide) (by
      rintro k k' j s t hj ⟨m, rfl, rfl⟩
      simp (disch := omega) only [f9_sumOf_l4, f9_sumOf_b4, f10_wages_l4, f10_wages_b4, litI, letv, eqI, leI, ltI, addI, mulI, subI, clI, at_nI, put_nI, nI_s, orI, shl1I, ifb0, ifb1, Option.bind_some, gx, ux, Nat.add_zero, Nat.zero_add, Nat.not_lt_zero, false_or, or_false, Nat.mul_zero, Nat.zero_mul]
      by_cases h : 8 ≤ j
      · left
        simp (disch := omega) only [if_pos h]
        exact ⟨_, rfl, rfl⟩
      · right
        simp (disch := omega) only [if_neg h, man10 hm, has9I, litI, letv, eqI, leI, ltI, addI, mulI, subI, clI, at_nI, put_nI, nI_s, orI, shl1I, ifb0, ifb1, Option.bind_some, gx, ux, Nat.add_zero, Nat.zero_add, Nat.not_lt_zero, false_or, or_false, Nat.mul_zero, Nat.zero_mul, if_neg, hw]
        by_cases q : F.testBit j = true
        · simp (disch := omega) only [q, not_true, if_false]
          exact ⟨by omega, (_, _), (_, _), rfl, rfl, _, rfl, rfl⟩
        · simp (disch := omega) only [q, not_false_eq_true, if_true]
          exact ⟨by omega, (_, _), (_, _), rfl, rfl, _, rfl, rfl⟩) (0, 0) (0, 0) ⟨_, rfl, rfl⟩
  exact ⟨r, by
    show (f9_sumOf_l4 8 (As 4) (nI F) NF 0 0).bind _ = _
    rw [show f9_sumOf_l4 8 (As 4) (nI F) NF 0 0 = some r from e1]
    rfl, e2⟩
theorem menSet_c {f : Nat → Int32} {A : Nat → Nat → Int32} {F : Nat} (hF : F < 256) (hm : ∀ c, c < 8 → A 0 (48 + c) = if F.testBit c then 1 else 0) : f10_menSet f A = some (nI F) := by
  unfold f10_menSet
  have e : mset (fun i => F.testBit i) 8 = F := mset_self hF
  refine loop_one (fun n (s : Int32 × Int32) => f10_menSet_l4 f A n s.1 s.2) 8 (fun j s => s = (nI (mset (fun i => F.testBit i) j), nI j)) (fun a => a = some (nI F)) (by decide) ?_ (0, 0) rfl
  rintro n j s hj rfl
  simp (disch := omega) only [f10_menSet_l4, f10_menSet_b4, litI, letv, eqI, leI, ltI, addI, mulI, subI, clI, at_nI, put_nI, nI_s, orI, shl1I, ifb0, ifb1, Option.bind_some, gx, ux, Nat.add_zero, Nat.zero_add, Nat.not_lt_zero, false_or, or_false, Nat.mul_zero, Nat.zero_mul]
  by_cases h : 8 ≤ j
  · have : j = 8 := by omega
    subst this
    left
    rw [if_pos (by omega), e]
  · right
    simp (disch := omega) only [if_neg h, man10 hm, litI, letv, eqI, leI, ltI, addI, mulI, subI, clI, at_nI, put_nI, nI_s, orI, shl1I, ifb0, ifb1, Option.bind_some, gx, ux, Nat.add_zero, Nat.zero_add, Nat.not_lt_zero, false_or, or_false, Nat.mul_zero, Nat.zero_mul]
    by_cases q : F.testBit j = true
    · simp (disch := omega) only [q, not_true, if_false]
      refine ⟨by omega, (_, _), rfl, ?_⟩
      simp only [mset, q, if_true]
      rfl
    · simp (disch := omega) only [q, not_false_eq_true, if_true]
      refine ⟨by omega, (_, _), rfl, ?_⟩
      simp only [mset, q, if_false, Bool.false_eq_true]
      rfl
theorem ok_count : OK_count INV := by
  rintro σf σA fW AW μf μA x1 hI
  have hI0 := hI
  obtain ⟨T, nx, ⟨b1, b2, b3, b4, b5, b6, b7⟩, ⟨s1, ⟨F, hF, e5, s2⟩, ⟨hr, h1, h2, h3, s6⟩, ⟨d, d1, d2, d3⟩, ⟨c, c1, c2, c3⟩, ⟨x, x1', x2, x3⟩⟩, ⟨sz, z1, z2, z3, -⟩, -, -, ⟨k, -, -, -, k2, k3, -⟩, -⟩ := hI
  obtain ⟨w, w1, w2⟩ := wages_c (As := σA 3) (f := μf) hF e5 (fun c hc => (s2 c hc).1) (fun c hc => by
    obtain ⟨v, -, v2, v3⟩ := s6 c hc
    rw [v2, v3])
  have m := menSet_c (f := μf) hF (fun c hc => (s2 c hc).1)
  unfold f9_count f10_count
  simp (disch := omega) only [w1, w2, m, litI, letv, eqI, leI, ltI, addI, mulI, subI, clI, at_nI, put_nI, nI_s, orI, shl1I, ifb0, ifb1, Option.bind_some, gx, ux, Nat.add_zero, Nat.zero_add, Nat.not_lt_zero, false_or, or_false, Nat.mul_zero, Nat.zero_mul, h2, h3, d2, d3, c2, c3, x2, x3, z2, z3, k2, k3, b2, b3, e5]
  by_cases q : x1 = nI 0
  · simp (disch := omega) only [q, if_true]; exact ⟨_, _, rfl, rfl, rfl, hI0⟩
  simp (disch := omega) only [q, if_false]
  by_cases q : x1 = nI 1
  · simp (disch := omega) only [q, if_true]; exact ⟨_, _, rfl, rfl, rfl, hI0⟩
  simp (disch := omega) only [q, if_false]
  by_cases q : x1 = nI 2
  · simp (disch := omega) only [q, if_true]; exact ⟨_, _, rfl, rfl, rfl, hI0⟩
  simp (disch := omega) only [q, if_false]
  by_cases q : x1 = nI 3
  · simp (disch := omega) only [q, if_true]; exact ⟨_, _, rfl, rfl, rfl, hI0⟩
  simp (disch := omega) only [q, if_false]
  by_cases q : x1 = nI 4
  · simp (disch := omega) only [q, if_true]; exact ⟨_, _, rfl, rfl, rfl, hI0⟩
  simp (disch := omega) only [q, if_false]
  by_cases q : x1 = nI 5
  · simp (disch := omega) only [q, if_true]; exact ⟨_, _, rfl, rfl, rfl, hI0⟩
  simp (disch := omega) only [q, if_false]
  by_cases q : x1 = nI 6
  · simp (disch := omega) only [q, if_true]; exact ⟨_, _, rfl, rfl, rfl, hI0⟩
  simp (disch := omega) only [q, if_false]
  by_cases q : x1 = nI 7
  · simp (disch := omega) only [q, if_true]; exact ⟨_, _, rfl, rfl, rfl, hI0⟩
  simp (disch := omega) only [q, if_false]
  by_cases q : x1 = nI 8
  · simp (disch := omega) only [q, if_true]; exact ⟨_, _, rfl, rfl, rfl, hI0⟩
  simp (disch := omega) only [q, if_false]
  exact ⟨_, _, rfl, rfl, rfl, hI0⟩
