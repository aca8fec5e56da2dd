/-! the simple tellings -/
theorem RS.mono {T T' : Nat} {fs : Nat → Int32} {As : Nat → Nat → Int32} {An : Nat → Int32} (h : RS T fs As An) (hT : ∀ i, T.testBit i = true → T'.testBit i = true) : RS T' fs As An := by
  obtain ⟨h1, ⟨F, hF, e5, h2⟩, h3⟩ := h
  refine ⟨h1, ⟨F, hF, e5, fun c hc => ?_⟩, h3⟩
  obtain ⟨h4, w, hw, h5, h6, h7⟩ := h2 c hc
  exact ⟨h4, w, hw, h5, h6, fun h => hT _ (h7 h)⟩
theorem RK.mono {T T' : Nat} {a b : Int32} {fs : Nat → Int32} {As : Nat → Nat → Int32} {An : Nat → Int32} (h : RK T a b fs As An) (hT : ∀ i, T.testBit i = true → T'.testBit i = true) : RK T' a b fs As An := by
  rcases h with h | ⟨h1, h2, h3⟩
  · exact Or.inl h
  · exact Or.inr ⟨h1, h2, h3.mono hT⟩
theorem c75 : (75 : Int32).toNatClampNeg = 75 := by decide
theorem c74 : (74 : Int32).toNatClampNeg = 74 := by decide
theorem c73 : (73 : Int32).toNatClampNeg = 73 := by decide
theorem c72 : (72 : Int32).toNatClampNeg = 72 := by decide
theorem ok_seed : OK_seed INV := by
  rintro σf σA fW AW μf μA x ⟨T, nx, hB, hS, hT, hW, hK, hL, hX⟩
  rcases within_c x (A := 0) (B := 65535) (a := 0) (b := 65535) rfl rfl (by decide) (by decide) with ⟨h, _⟩ | ⟨h, v, _, hv, rfl⟩
  · refine ⟨(0, σf 3), (0, μA), ?_, ?_, rfl, T, nx, hB, hS, hT, hW, hK, hL, hX⟩
    · unfold f9_seed; rw [if_pos h]
    · unfold f10_seed; rw [in_eq, if_pos h]
  · refine ⟨(1, upd (σf 3) 9 (nI v)), (1, updA μA 0 (upd (μA 0) 75 (nI v))), ?_, ?_, rfl, T, nx, hB, ?_, hT, hW, hK, hL, hX⟩
    · unfold f9_seed; rw [h, if_neg n10]; rfl
    · unfold f10_seed; rw [in_eq, h, if_neg n10]
      show some (1, updA μA 0 (upd (μA 0) (75 : Int32).toNatClampNeg (nI v))) = _
      rw [c75]
    · show RS T (upd (σf 3) 9 (nI v)) (σA 3) (upd (μA 0) 75 (nI v))
      obtain ⟨h1, ⟨F, hF, e5, h2⟩, ⟨hr, h3, h4, h5, h6⟩, h7, h8, h9⟩ := hS
      have un : ∀ j, j ≠ 75 → upd (μA 0) 75 (nI v) j = μA 0 j := fun j hj => upd_n hj
      refine ⟨fun p hp => ?_, ⟨F, hF, e5, fun c hc => ?_⟩, ⟨hr, h3, h4, ?_, fun c hc => ?_⟩, ?_, ?_, ⟨v, by omega, rfl, upd_s⟩⟩
      · obtain ⟨g1, g2, g3⟩ := h1 p hp
        refine ⟨?_, ?_, ?_⟩
        · obtain ⟨a, b, c, d⟩ := g1; exact ⟨a, b, c, (un _ (by omega)).trans d⟩
        · obtain ⟨a, b, c, d⟩ := g2; exact ⟨a, b, c, (un _ (by omega)).trans d⟩
        · obtain ⟨a, b, c, d⟩ := g3; exact ⟨a, b, c, (un _ (by omega)).trans d⟩
      · obtain ⟨g1, w, g2, g3, g4, g5⟩ := h2 c hc
        exact ⟨(un _ (by omega)).trans g1, w, g2, g3, (un _ (by omega)).trans g4, g5⟩
      · exact (un _ (by omega)).trans h5
      · obtain ⟨a, b, d, g⟩ := h6 c hc; exact ⟨a, b, d, (un _ (by omega)).trans g⟩
      · obtain ⟨a, b, d, g⟩ := h7; exact ⟨a, b, d, (un _ (by omega)).trans g⟩
      · obtain ⟨a, b, d, g⟩ := h8; exact ⟨a, b, d, (un _ (by omega)).trans g⟩
theorem or_bit (T p i : Nat) : (T ||| 2 ^ p).testBit i = (T.testBit i || decide (p = i)) := by rw [Nat.testBit_or, Nat.testBit_two_pow]
theorem or_lt16 {T p : Nat} (hT : T < 65536) (hp : p < 16) : T ||| 2 ^ p < 65536 := Nat.or_lt_two_pow (n := 16) hT (Nat.pow_lt_pow_right (by decide) hp)
theorem or_lt8 {T p : Nat} (hT : T < 256) (hp : p < 8) : T ||| 2 ^ p < 256 := Nat.or_lt_two_pow (n := 8) hT (Nat.pow_lt_pow_right (by decide) hp)
theorem ok_place : OK_place INV := by
  rintro σf σA fW AW μf μA x1 x2 x3 ⟨T, nx, hB, hS, hT, hW, hK, hL, hX⟩
  have bad : (f9_within x1 0 15 = 0 ∨ f9_within x2 0 99 = 0 ∨ f9_within x3 0 999 = 0) → f9_place (σf 0) (σA 0) (σf 2) (σA 2) (σf 3) (σA 3) x1 x2 x3 = some (0, σf 2, σA 3) ∧ f10_place μf μA x1 x2 x3 = some (0, μA, μf) := by
    intro h
    unfold f9_place f10_place
    rw [in_eq]
    by_cases h1 : f9_within x1 0 15 = 0
    · exact ⟨if_pos h1, if_pos h1⟩
    · rw [if_neg h1, if_neg h1]
      by_cases h2 : f9_within x2 0 99 = 0
      · exact ⟨if_pos h2, if_pos h2⟩
      · rw [if_neg h2, if_neg h2]
        rcases h with h | h | h
        · exact absurd h h1
        · exact absurd h h2
        · exact ⟨if_pos h, if_pos h⟩
  have fin : (f9_within x1 0 15 = 0 ∨ f9_within x2 0 99 = 0 ∨ f9_within x3 0 999 = 0) → ∃ (r : Int32 × (Nat → Int32) × (Nat → Nat → Int32)) (r' : Int32 × (Nat → Nat → Int32) × (Nat → Int32)), f9_place (σf 0) (σA 0) (σf 2) (σA 2) (σf 3) (σA 3) x1 x2 x3 = some r ∧ f10_place μf μA x1 x2 x3 = some r' ∧ r.1 = (r'.1) ∧ INV (cset σf 2 (r.2.1)) (cset σA 3 (r.2.2)) fW AW (r'.2.2) (r'.2.1) := fun h =>
    ⟨_, _, (bad h).1, (bad h).2, rfl, T, nx, hB, hS, hT, hW, hK, hL, hX⟩
  rcases within_c x1 (A := 0) (B := 15) (a := 0) (b := 15) rfl rfl (by decide) (by decide) with ⟨h, _⟩ | ⟨hp1, p, _, hp, rfl⟩
  · exact fin (Or.inl h)
  rcases within_c x2 (A := 0) (B := 99) (a := 0) (b := 99) rfl rfl (by decide) (by decide) with ⟨h, _⟩ | ⟨ht1, t, _, ht, rfl⟩
  · exact fin (Or.inr (Or.inl h))
  rcases within_c x3 (A := 0) (B := 999) (a := 0) (b := 999) rfl rfl (by decide) (by decide) with ⟨h, _⟩ | ⟨hg1, g, _, hg, rfl⟩
  · exact fin (Or.inr (Or.inr h))
  obtain ⟨b1, b2, b3, b4, b5, b6, b7⟩ := hB
  have mono : ∀ i, T.testBit i = true → (T ||| 2 ^ p).testBit i = true := fun i h => by rw [or_bit, h]; rfl
  refine ⟨(1, upd (σf 2) 0 (nI (T ||| 2 ^ p)), updA (updA (σA 3) 0 (upd (σA 3 0) p (nI t))) 1 (upd (σA 3 1) p (nI g))), (1, updA (updA μA 0 (upd (μA 0) p (nI t))) 0 (upd (upd (μA 0) p (nI t)) (16 + p) (nI g)), upd μf 6 (nI (T ||| 2 ^ p))), ?_, ?_, rfl, T ||| 2 ^ p, nx, ?_, ?_, hT, hW, hK.mono mono, hL, hX⟩
  · unfold f9_place
    simp only [letv]
    rw [hp1, ht1, hg1, if_neg n10, if_neg n10, if_neg n10, b2, shl1 (by omega), or_nI, put_nI (by omega) (by decide), put_nI (by omega) (by decide)]
    rfl
  · unfold f10_place
    simp only [letv]
    rw [in_eq, hp1, ht1, hg1, if_neg n10, if_neg n10, if_neg n10, b3, shl1 (by omega), or_nI, show (0 : Int32) + nI p = nI (0 + p) from nI_add 0 p, show (16 : Int32) + nI p = nI (16 + p) from nI_add 16 p, if_neg (nI_in (by omega) (by decide)), if_neg (nI_in (by omega) (by decide)), ux_nI (by omega), ux_nI (by omega), Nat.zero_add]
    rfl
  · show RB (T ||| 2 ^ p) nx (upd (σf 2) 0 (nI (T ||| 2 ^ p)) 0) (upd μf 6 (nI (T ||| 2 ^ p)) 6) (σA 2 1) (μA 3)
    exact ⟨or_lt16 b1 (by omega), upd_s, upd_s, b4, b5, b6, fun a b ha h => ⟨mono _ (b7 a b ha h).1, mono _ (b7 a b ha h).2⟩⟩
  · show RS (T ||| 2 ^ p) (σf 3) (updA (updA (σA 3) 0 (upd (σA 3 0) p (nI t))) 1 (upd (σA 3 1) p (nI g))) (upd (upd (μA 0) p (nI t)) (16 + p) (nI g))
    obtain ⟨h1, ⟨F, hF, e5, h2⟩, ⟨hr, h3, h4, h5, h6⟩, h7, h8, h9⟩ := hS.mono mono
    have un : ∀ j, j ≠ p → j ≠ 16 + p → upd (upd (μA 0) p (nI t)) (16 + p) (nI g) j = μA 0 j := fun j hj hk => by rw [upd_n hk, upd_n hj]
    refine ⟨fun q hq => ?_, ⟨F, hF, e5, fun c hc => ?_⟩, ⟨hr, h3, h4, ?_, fun c hc => ?_⟩, ?_, ?_, ?_⟩
    · obtain ⟨g1, g2, g3⟩ := h1 q hq
      refine ⟨?_, ?_, ?_⟩
      · by_cases e : q = p
        · subst e
          exact ⟨t, ht, upd_s, by show upd (upd (μA 0) q (nI t)) (16 + q) (nI g) q = _; rw [upd_n (by omega), upd_s]⟩
        · obtain ⟨a, b, c, d⟩ := g1; exact ⟨a, b, (upd_n e).trans c, (un _ e (by omega)).trans d⟩
      · by_cases e : q = p
        · subst e
          exact ⟨g, hg, upd_s, upd_s⟩
        · obtain ⟨a, b, c, d⟩ := g2; exact ⟨a, b, (upd_n e).trans c, (un _ (by omega) (by omega)).trans d⟩
      · obtain ⟨a, b, c, d⟩ := g3; exact ⟨a, b, c, (un _ (by omega) (by omega)).trans d⟩
    · obtain ⟨g1, w, g2, g3, g4, g5⟩ := h2 c hc
      exact ⟨(un _ (by omega) (by omega)).trans g1, w, g2, g3, (un _ (by omega) (by omega)).trans g4, g5⟩
    · exact (un _ (by omega) (by omega)).trans h5
    · obtain ⟨a, b, d, g⟩ := h6 c hc; exact ⟨a, b, d, (un _ (by omega) (by omega)).trans g⟩
    · obtain ⟨a, b, d, g⟩ := h7; exact ⟨a, b, d, (un _ (by omega) (by omega)).trans g⟩
    · obtain ⟨a, b, d, g⟩ := h8; exact ⟨a, b, d, (un _ (by omega) (by omega)).trans g⟩
    · obtain ⟨a, b, d, g⟩ := h9; exact ⟨a, b, d, (un _ (by omega) (by omega)).trans g⟩
