/-! feed -/
theorem append_s {x : Int32} {n : Nat} {A : Nat → Nat → Int32} {f : Nat → Int32} {i : Int32} {sz : Nat} (hi : ¬ i < 0) (h1 : f 1 = nI sz) (h2 : sz < 260) : f7_append_l3 x (n + 1) A f i = f7_append_l3 x n (updA A 0 (upd (A 0) sz (ushr x i &&& 255))) (upd f 1 (nI (sz + 1))) (i + -8) := by
  show f7_append_b3 x (f7_append_l3 x n) A f i = _
  unfold f7_append_b3
  rw [if_neg hi]
  simp only [letv]
  rw [h1, nI_s, put_nI h2 (by decide)]
theorem append_c {f : Nat → Int32} {A : Nat → Nat → Int32} {x : Int32} {sz : Nat} (h1 : f 1 = nI sz) (h2 : sz + 4 ≤ 260) : ∃ A' f', f7_append f A x = some (A', f') ∧ f' 1 = nI (sz + 4) ∧ A' 0 = upd (upd (upd (upd (A 0) sz (ushr x 24 &&& 255)) (sz + 1) (ushr x 16 &&& 255)) (sz + 2) (ushr x 8 &&& 255)) (sz + 3) (ushr x 0 &&& 255) := by
  obtain ⟨n, hn⟩ : ∃ n, NF = n + 5 := ⟨NF - 5, by have := NF_ge; omega⟩
  have c1 : (24 : Int32) + -8 = 16 := by decide
  have c2 : (16 : Int32) + -8 = 8 := by decide
  have c3 : (8 : Int32) + -8 = 0 := by decide
  unfold f7_append
  rw [hn, append_s (by decide) h1 (by omega), c1, append_s (by decide) upd_s (by omega), c2, append_s (by decide) upd_s (by omega), c3, append_s (by decide) upd_s (by omega)]
  have e : ∀ A f, f7_append_l3 x (n + 1) A f (0 + -8) = some (A, f) := fun A f => by
    show f7_append_b3 x (f7_append_l3 x n) A f (0 + -8) = _
    unfold f7_append_b3
    rw [if_pos (by decide)]
  rw [e]
  exact ⟨_, _, rfl, upd_s, by rw [updA_s, updA_s, updA_s, updA_s]⟩
theorem types_c {f : Nat → Int32} {A : Nat → Nat → Int32} {x : Int32} {sz : Nat} (h1 : f 8 = nI sz) (h2 : sz + 4 ≤ 260) : ∃ A' f', f10_types f A x = some (A', f') ∧ f' 8 = nI (sz + 4) ∧ A' 7 = upd (upd (upd (upd (A 7) sz (vp_nar .byte (i2b (shr x (nI 24))))) (sz + 1) (vp_nar .byte (i2b (shr x (nI 16))))) (sz + 2) (vp_nar .byte (i2b (shr x (nI 8))))) (sz + 3) (vp_nar .byte (i2b (shr x (nI 0)))) ∧ (∀ k, k ≠ 8 → f' k = f k) ∧ (∀ k, k ≠ 7 → A' k = A k) := by
  obtain ⟨n, hn⟩ : ∃ n, NF = n + 5 := ⟨NF - 5, by have := NF_ge; omega⟩
  unfold f10_types
  rw [hn]
  simp only [f10_types_l2, f10_types_b2, letv, if_neg (show ¬ (3 : Int32) < 0 by decide), if_neg (show ¬ (3 : Int32) + -1 < 0 by decide), if_neg (show ¬ (3 : Int32) + -1 + -1 < 0 by decide), if_neg (show ¬ (3 : Int32) + -1 + -1 + -1 < 0 by decide), if_pos (show (3 : Int32) + -1 + -1 + -1 + -1 < 0 by decide), upd_s, h1, nI_s, if_neg (nI_in (show sz < 260 by omega) (by decide)), if_neg (nI_in (show sz + 1 < 260 by omega) (by decide)), if_neg (nI_in (show sz + 1 + 1 < 260 by omega) (by decide)), if_neg (nI_in (show sz + 1 + 1 + 1 < 260 by omega) (by decide))]
  refine ⟨_, _, rfl, ?_, ?_, ?_, ?_⟩
  · simp only [upd_s]
  · simp only [updA_s]
    rw [ux_nI (by omega), ux_nI (by omega), ux_nI (by omega), ux_nI (by omega)]
    rfl
  · intro k hk
    rw [upd_n hk, upd_n hk, upd_n hk, upd_n hk]
  · intro k hk
    rw [updA_n hk, updA_n hk, updA_n hk, updA_n hk]
theorem four_c {f f' : Nat → Int32} {A A' : Nat → Nat → Int32} (x : Int32) {sz : Nat} (h1 : f 1 = nI sz) (h1' : f' 8 = nI sz) (h2 : sz + 4 ≤ 260) (hb : ∀ i, i < sz → ∃ v, v < 256 ∧ A 0 i = nI v ∧ A' 7 i &&& 255 = nI v) : ∃ q q', f7_append f A x = some q ∧ f10_types f' A' x = some q' ∧ q.2 1 = nI (sz + 4) ∧ q'.2 8 = nI (sz + 4) ∧ (∀ i, i < sz + 4 → ∃ v, v < 256 ∧ q.1 0 i = nI v ∧ q'.1 7 i &&& 255 = nI v) ∧ (∀ k, k ≠ 8 → q'.2 k = f' k) ∧ (∀ k, k ≠ 7 → q'.1 k = A' k) := by
  obtain ⟨B, g, e1, e2, e3⟩ := append_c (A := A) (x := x) h1 h2
  obtain ⟨B', g', d1, d2, d3, d4, d5⟩ := types_c (A := A') (x := x) h1' h2
  refine ⟨(B, g), (B', g'), e1, d1, e2, d2, fun i hi => ?_, d4, d5⟩
  show ∃ v, v < 256 ∧ B 0 i = nI v ∧ B' 7 i &&& 255 = nI v
  rw [e3, d3]
  have key : ∀ n, n ≤ 24 → ∃ v, v < 256 ∧ ushr x (nI n) &&& 255 = nI v ∧ vp_nar .byte (i2b (shr x (nI n))) &&& 255 = nI v := fun n hn => by
    obtain ⟨v, hv, e⟩ := byte_lt (ushr x (nI n))
    exact ⟨v, hv, e, by rw [nar_byte, byte_same x hn, e]⟩
  by_cases c3 : i = sz + 3
  · subst c3
    obtain ⟨v, hv, u1, u2⟩ := key 0 (by omega)
    exact ⟨v, hv, by rw [upd_s]; exact u1, by rw [upd_s]; exact u2⟩
  by_cases c2 : i = sz + 2
  · subst c2
    obtain ⟨v, hv, u1, u2⟩ := key 8 (by omega)
    exact ⟨v, hv, by rw [upd_n (by omega), upd_s]; exact u1, by rw [upd_n (by omega), upd_s]; exact u2⟩
  by_cases c1 : i = sz + 1
  · subst c1
    obtain ⟨v, hv, u1, u2⟩ := key 16 (by omega)
    exact ⟨v, hv, by rw [upd_n (by omega), upd_n (by omega), upd_s]; exact u1, by rw [upd_n (by omega), upd_n (by omega), upd_s]; exact u2⟩
  by_cases c0 : i = sz
  · subst c0
    obtain ⟨v, hv, u1, u2⟩ := key 24 (by omega)
    exact ⟨v, hv, by rw [upd_n (by omega), upd_n (by omega), upd_n (by omega), upd_s]; exact u1, by rw [upd_n (by omega), upd_n (by omega), upd_n (by omega), upd_s]; exact u2⟩
  obtain ⟨v, hv, u1, u2⟩ := hb i (by omega)
  exact ⟨v, hv, by rw [upd_n c3, upd_n c2, upd_n c1, upd_n c0]; exact u1, by rw [upd_n c3, upd_n c2, upd_n c1, upd_n c0]; exact u2⟩
theorem ok_feed : OK_feed INV := by
  rintro σf σA fW AW μf μA x1 x2 x3 x4 x5 hI
  have hI0 := hI
  obtain ⟨T, nx, hB, hS, ⟨sz, z1, z2, z3, z4⟩, hW, hK, hL, hX⟩ := hI
  unfold f9_feed f10_feed
  rw [z2, z3, show (20 : Int32) = nI 20 from rfl, show (260 : Int32) = nI 260 from rfl, addI]
  by_cases h : sz + 20 ≤ 260
  · have h' : nI (sz + 20) ≤ nI 260 := by rw [leI (by omega) (by omega)]; exact h
    obtain ⟨q1, p1, e1, d1, a1, a2, a3, a4, a5⟩ := four_c x1 z2 z3 (by omega) z4
    obtain ⟨q2, p2, e2, d2, b1, b2, b3, b4, b5⟩ := four_c x2 a1 a2 (by omega) a3
    obtain ⟨q3, p3, e3, d3, c1, c2, c3, c4, c5⟩ := four_c x3 b1 b2 (by omega) b3
    obtain ⟨q4, p4, e4, d4, g1, g2, g3, g4, g5⟩ := four_c x4 c1 c2 (by omega) c3
    obtain ⟨q5, p5, e5, d5, k1, k2, k3, k4, k5⟩ := four_c x5 g1 g2 (by omega) g3
    have hf : ∀ k, k ≠ 8 → p5.2 k = μf k := fun k hk => by rw [k4 k hk, g4 k hk, c4 k hk, b4 k hk, a4 k hk]
    have hA : ∀ k, k ≠ 7 → p5.1 k = μA k := fun k hk => by rw [k5 k hk, g5 k hk, c5 k hk, b5 k hk, a5 k hk]
    refine ⟨(q5.2 1, q5.1, q5.2), (p5.2 8, p5.1, p5.2), ?_, ?_, k1.trans k2.symm, T, nx, ?_, ?_, ?_, ?_, ?_, ?_, ?_⟩
    · rw [if_pos h']
      simp only [e1, e2, e3, e4, e5, Option.bind_some]
    · rw [if_pos h']
      simp only [d1, d2, d3, d4, d5, Option.bind_some]
    · show RB T nx (σf 2 0) (p5.2 6) (σA 2 1) (p5.1 3)
      rw [hf 6 (by decide), hA 3 (by decide)]; exact hB
    · show RS T (σf 3) (σA 3) (p5.1 0)
      rw [hA 0 (by decide)]; exact hS
    · exact ⟨sz + 20, h, k1, k2, k3⟩
    · show RW fW AW (p5.1 4) (p5.1 5)
      rw [hA 4 (by decide), hA 5 (by decide)]; exact hW
    · show RK T (σf 0 14) (p5.2 51) (σf 5) (σA 5) (p5.1 2)
      rw [hf 51 (by decide), hA 2 (by decide)]; exact hK
    · show RLaw (σf 10 9) (p5.2 17) (σA 10) (p5.1 24) (p5.1 25) (p5.1 26) (p5.1 27) (p5.1 28)
      rw [hf 17 (by decide), hA 24 (by decide), hA 25 (by decide), hA 26 (by decide), hA 27 (by decide), hA 28 (by decide)]; exact hL
    · show RX (σA 12 0) (p5.1 43)
      rw [hA 43 (by decide)]; exact hX
  · have h' : ¬ nI (sz + 20) ≤ nI 260 := by rw [leI (by omega) (by omega)]; exact h
    rw [if_neg h', if_neg h']
    exact ⟨_, _, rfl, rfl, rfl, by rw [cset_id, cset_id]; exact hI0⟩
