theorem bridges_c {f : Nat → Int32} {A : Nat → Nat → Int32} {nx : Nat → Nat} (hn : ∀ p, p < 16 → A 1 p = nI (nx p) ∧ nx p < 65536) (hsym : ∀ p q, p < 16 → q < 16 → (nx p).testBit q = (nx q).testBit p) : ∃ A', f1_bridgesInAll f A = some (nI (tsum (rowc (brd nx) 16) 16), A') ∧ (∀ i, i < 16 → A' 1 i = A 1 i) ∧ ∀ j, j ≠ 1 → j ≠ 2 → A' j = A j := by
  unfold f1_bridgesInAll
  refine loop_one (fun n (x : (Nat → Nat → Int32) × Int32 × Int32) => f1_bridgesInAll_l4 f n x.1 x.2.1 x.2.2) 16 (fun j x => ∃ A', x = (A', nI (tsum (rowc (brd nx) 16) j), nI j) ∧ (∀ i, i < 16 → A' 1 i = A 1 i) ∧ ∀ j, j ≠ 1 → j ≠ 2 → A' j = A j) (fun a => ∃ A', a = some (nI (tsum (rowc (brd nx) 16) 16), A') ∧ (∀ i, i < 16 → A' 1 i = A 1 i) ∧ ∀ j, j ≠ 1 → j ≠ 2 → A' j = A j) (by decide) ?_ (A, 0, 0) ⟨A, rfl, fun _ _ => rfl, fun _ _ _ => rfl⟩
  rintro n p x hp ⟨A1, rfl, h1, h2⟩
  have e4 : ∀ n A x i, f1_bridgesInAll_l4 f (n + 1) A x i = f1_bridgesInAll_b4 f (f1_bridgesInAll_l4 f n) A x i := fun _ _ _ _ => rfl
  simp only [e4]
  generalize f1_bridgesInAll_l4 f n = Kn
  unfold f1_bridgesInAll_b4
  by_cases h16 : 16 ≤ p
  · have : p = 16 := by omega
    subst this
    left
    rw [if_pos (by decide)]
    exact ⟨A1, rfl, h1, h2⟩
  right
  refine ⟨by omega, ?_⟩
  rw [if_neg (ge16 (show p < 16 by omega)), nI_s]
  have inner : ∃ A', f1_bridgesInAll_l14 f Kn NF A1 (nI (tsum (rowc (brd nx) 16) p)) (nI p) (nI (p + 1)) = Kn A' (nI (tsum (rowc (brd nx) 16) (p + 1))) (nI (p + 1)) ∧ (∀ i, i < 16 → A' 1 i = A 1 i) ∧ ∀ j, j ≠ 1 → j ≠ 2 → A' j = A j := by
    refine loop_one (fun n (x : (Nat → Nat → Int32) × Int32 × Int32) => f1_bridgesInAll_l14 f Kn n x.1 x.2.1 (nI p) x.2.2) (15 - p) (fun i x => ∃ A', x = (A', nI (tsum (rowc (brd nx) 16) p + cnt (fun q => decide (p < q) && brd nx p q) (p + 1 + i)), nI (p + 1 + i)) ∧ (∀ i, i < 16 → A' 1 i = A 1 i) ∧ ∀ j, j ≠ 1 → j ≠ 2 → A' j = A j) (fun a => ∃ A', a = Kn A' (nI (tsum (rowc (brd nx) 16) (p + 1))) (nI (p + 1)) ∧ (∀ i, i < 16 → A' 1 i = A 1 i) ∧ ∀ j, j ≠ 1 → j ≠ 2 → A' j = A j) (by omega) ?_ (A1, _, _) ⟨A1, ?_, h1, h2⟩
    · rintro n i x hi ⟨A2, rfl, g1, g2⟩
      have e14 : ∀ n A x i, f1_bridgesInAll_l14 f Kn (n + 1) A x (nI p) i = f1_bridgesInAll_b14 f Kn (f1_bridgesInAll_l14 f Kn n) A x (nI p) i := fun _ _ _ _ => rfl
      simp only [e14]
      unfold f1_bridgesInAll_b14
      by_cases h : 16 ≤ p + 1 + i
      · have : p + 1 + i = 16 := by omega
        rw [this]
        left
        rw [if_pos (by decide), nI_s]
        exact ⟨A2, rfl, g1, g2⟩
      right
      refine ⟨by omega, ?_⟩
      obtain ⟨A3, e, k1, k2⟩ := br9 (f := f) (A := A2) (nx := nx) (p := p) (q := p + 1 + i) (by omega) (by omega) (by omega) (fun i hi => by rw [g1 i hi]; exact hn i hi) hsym
      rw [if_neg (ge16 (show p + 1 + i < 16 by omega)), e, Option.bind_some, nI_s]
      have ec : cnt (fun q => decide (p < q) && brd nx p q) (p + 1 + i + 1) = cnt (fun q => decide (p < q) && brd nx p q) (p + 1 + i) + if brd nx p (p + 1 + i) then 1 else 0 := by
        show cnt _ (p + 1 + i) + (if (decide (p < p + 1 + i) && brd nx p (p + 1 + i)) then 1 else 0) = _
        rw [decide_eq_true (by omega), Bool.true_and]
      have fr1 : ∀ i, i < 16 → A3 1 i = A 1 i := fun i hi => (k1 i hi).trans (g1 i hi)
      have fr2 : ∀ j, j ≠ 1 → j ≠ 2 → A3 j = A j := fun j a b => (k2 j a b).trans (g2 j a b)
      rw [show p + 1 + (i + 1) = p + 1 + i + 1 from rfl, ec]
      by_cases b : brd nx p (p + 1 + i) = true
      · rw [b, if_pos rfl, if_neg (show ¬ nI 1 = 0 by decide), nI_s, if_pos rfl]
        exact ⟨(A3, _, _), rfl, A3, rfl, fr1, fr2⟩
      · simp only [Bool.eq_false_iff.mpr b, Bool.false_eq_true, if_false, Nat.add_zero]
        rw [if_pos (show nI 0 = (0 : Int32) from rfl)]
        exact ⟨(A3, _, _), rfl, A3, rfl, fr1, fr2⟩
    · have : cnt (fun q => decide (p < q) && brd nx p q) (p + 1 + 0) = 0 := cnt_zero (fun i hi => by rw [decide_eq_false (by omega), Bool.false_and])
      rw [this]; rfl
  obtain ⟨A', i1, i2, i3⟩ := inner
  exact ⟨(A', _, _), i1, A', rfl, i2, i3⟩
/-- the first bridge, in the class's form -/
def FBr (nx : Nat → Nat) (r : Int32) : Prop := (r = -1 ∧ ∀ p q, p < q → q < 16 → ¬ brd nx p q = true) ∨ ∃ p q, p < q ∧ q < 16 ∧ brd nx p q = true ∧ r = nI (p * 16 + q) ∧ ∀ p' q', p' < q' → q' < 16 → brd nx p' q' = true → p < p' ∨ (p = p' ∧ q ≤ q')
theorem first_c {f : Nat → Int32} {A : Nat → Nat → Int32} {nx : Nat → Nat} (hn : ∀ p, p < 16 → A 1 p = nI (nx p) ∧ nx p < 65536) (hsym : ∀ p q, p < 16 → q < 16 → (nx p).testBit q = (nx q).testBit p) : ∃ r A', f1_firstBridge f A = some (r, A') ∧ FBr nx r ∧ (∀ i, i < 16 → A' 1 i = A 1 i) ∧ ∀ j, j ≠ 1 → j ≠ 2 → A' j = A j := by
  unfold f1_firstBridge
  refine loop_one (fun n (x : (Nat → Nat → Int32) × Int32) => f1_firstBridge_l2 f n x.1 x.2) 16 (fun j x => ∃ A', x = (A', nI j) ∧ (∀ p q, p < j → p < q → q < 16 → ¬ brd nx p q = true) ∧ (∀ i, i < 16 → A' 1 i = A 1 i) ∧ ∀ j, j ≠ 1 → j ≠ 2 → A' j = A j) (fun a => ∃ r A', a = some (r, A') ∧ FBr nx r ∧ (∀ i, i < 16 → A' 1 i = A 1 i) ∧ ∀ j, j ≠ 1 → j ≠ 2 → A' j = A j) (by decide) ?_ (A, 0) ⟨A, rfl, fun p q h => absurd h (by omega), fun _ _ => rfl, fun _ _ _ => rfl⟩
  rintro n p x hp ⟨A1, rfl, hno, h1, h2⟩
  have e4 : ∀ n A i, f1_firstBridge_l2 f (n + 1) A i = f1_firstBridge_b2 f (f1_firstBridge_l2 f n) A i := fun _ _ _ => rfl
  simp only [e4]
  generalize f1_firstBridge_l2 f n = Kn
  unfold f1_firstBridge_b2
  by_cases h16 : 16 ≤ p
  · have : p = 16 := by omega
    subst this
    left
    rw [if_pos (by decide)]
    exact ⟨-1, A1, rfl, Or.inl ⟨rfl, fun p q a b => hno p q (by omega) a b⟩, h1, h2⟩
  rw [if_neg (ge16 (show p < 16 by omega)), nI_s]
  have inner : (∃ r A', f1_firstBridge_l12 f Kn NF A1 (nI p) (nI (p + 1)) = some (r, A') ∧ FBr nx r ∧ (∀ i, i < 16 → A' 1 i = A 1 i) ∧ ∀ j, j ≠ 1 → j ≠ 2 → A' j = A j) ∨ (∃ A', f1_firstBridge_l12 f Kn NF A1 (nI p) (nI (p + 1)) = Kn A' (nI (p + 1)) ∧ (∀ p' q, p' < p + 1 → p' < q → q < 16 → ¬ brd nx p' q = true) ∧ (∀ i, i < 16 → A' 1 i = A 1 i) ∧ ∀ j, j ≠ 1 → j ≠ 2 → A' j = A j) := by
    refine loop_one (fun n (x : (Nat → Nat → Int32) × Int32) => f1_firstBridge_l12 f Kn n x.1 (nI p) x.2) (15 - p) (fun i x => ∃ A', x = (A', nI (p + 1 + i)) ∧ (∀ q, p < q → q < p + 1 + i → ¬ brd nx p q = true) ∧ (∀ i, i < 16 → A' 1 i = A 1 i) ∧ ∀ j, j ≠ 1 → j ≠ 2 → A' j = A j) (fun a => (∃ r A', a = some (r, A') ∧ FBr nx r ∧ (∀ i, i < 16 → A' 1 i = A 1 i) ∧ ∀ j, j ≠ 1 → j ≠ 2 → A' j = A j) ∨ (∃ A', a = Kn A' (nI (p + 1)) ∧ (∀ p' q, p' < p + 1 → p' < q → q < 16 → ¬ brd nx p' q = true) ∧ (∀ i, i < 16 → A' 1 i = A 1 i) ∧ ∀ j, j ≠ 1 → j ≠ 2 → A' j = A j)) (by omega) ?_ (A1, _) ⟨A1, rfl, fun q a b => by omega, h1, h2⟩
    rintro n i x hi ⟨A2, rfl, hq, g1, g2⟩
    have e14 : ∀ n A i, f1_firstBridge_l12 f Kn (n + 1) A (nI p) i = f1_firstBridge_b12 f Kn (f1_firstBridge_l12 f Kn n) A (nI p) i := fun _ _ _ => rfl
    simp only [e14]
    unfold f1_firstBridge_b12
    by_cases h : 16 ≤ p + 1 + i
    · have e : p + 1 + i = 16 := by omega
      rw [e] at hq ⊢
      left
      rw [if_pos (by decide), nI_s]
      refine Or.inr ⟨A2, rfl, fun p' q a b c => ?_, g1, g2⟩
      by_cases e : p' = p
      · subst e; exact hq q b c
      · exact hno p' q (by omega) b c
    obtain ⟨A3, e, k1, k2⟩ := br9 (f := f) (A := A2) (nx := nx) (p := p) (q := p + 1 + i) (by omega) (by omega) (by omega) (fun i hi => by rw [g1 i hi]; exact hn i hi) hsym
    have fr1 : ∀ i, i < 16 → A3 1 i = A 1 i := fun i hi => (k1 i hi).trans (g1 i hi)
    have fr2 : ∀ j, j ≠ 1 → j ≠ 2 → A3 j = A j := fun j a b => (k2 j a b).trans (g2 j a b)
    rw [if_neg (ge16 (show p + 1 + i < 16 by omega)), e, Option.bind_some, nI_s]
    by_cases b : brd nx p (p + 1 + i) = true
    · left
      left
      rw [b, if_pos rfl, if_neg (show ¬ nI 1 = 0 by decide), show (16 : Int32) = nI 16 from rfl, mulI, addI]
      refine ⟨_, A3, rfl, Or.inr ⟨p, p + 1 + i, by omega, by omega, b, rfl, fun p' q' a1 a2 a3 => ?_⟩, fr1, fr2⟩
      by_cases e1 : p' < p
      · exact absurd a3 (hno p' q' e1 a1 a2)
      · by_cases e2 : p' = p
        · subst e2
          by_cases e3 : q' < p' + 1 + i
          · exact absurd a3 (hq q' a1 e3)
          · exact Or.inr ⟨rfl, by omega⟩
        · exact Or.inl (by omega)
    · right
      simp only [Bool.eq_false_iff.mpr b, Bool.false_eq_true, if_false]
      rw [if_pos (show nI 0 = (0 : Int32) from rfl)]
      refine ⟨by omega, (A3, _), rfl, A3, rfl, fun q a c => ?_, fr1, fr2⟩
      by_cases e1 : q = p + 1 + i
      · subst e1; exact b
      · exact hq q a (by omega)
  rcases inner with h | ⟨A', i1, i2, i3, i4⟩
  · exact Or.inl h
  · exact Or.inr ⟨by omega, (A', _), i1, A', rfl, i2, i3, i4⟩
/-- the first bridge among those of a region, in the reference's form -/
def FB10 (nx : Nat → Nat) (R : Nat → Nat → Prop) (a b : Int32) : Prop := (a = -2 ∧ b = -2 ∧ ∀ p q, R p q → p < q → q < 16 → ¬ brd nx p q = true) ∨ ∃ p q, p < q ∧ q < 16 ∧ brd nx p q = true ∧ a = nI p ∧ b = nI q ∧ R p q ∧ ∀ p' q', R p' q' → p' < q' → q' < 16 → brd nx p' q' = true → p < p' ∨ (p = p' ∧ q ≤ q')
theorem pm1 (r : Nat) : nI (r + 1) + -1 = nI r := pk_m1 r
theorem lanes10_c {g : Nat → Int32} {A : Nat → Nat → Int32} {nx : Nat → Nat} {w : Nat} (hw : w ≤ 3) (hn : ∀ p, p < 16 → A 3 p = nI (nx p) ∧ nx p < 65536) (hsym : ∀ p q, p < 16 → q < 16 → (nx p).testBit q = (nx q).testBit p) : ∃ a b r A', f10_lanes_l27 g (nI w) NF A 0 0 (-2) (-2) 15 = some (r, A') ∧ FB10 nx (fun _ _ => True) a b ∧ r = (if w = 0 then nI (tsum (rowc (fun p q => (nx p).testBit q) 16) 16) else if w = 1 then nI (tsum (rowc (brd nx) 16) 16) else if w = 2 then a else b) ∧ (∀ i, i < 16 → A' 3 i = A 3 i) ∧ ∀ j, j ≠ 3 → j ≠ 45 → j ≠ 46 → j ≠ 47 → A' j = A j := by
  refine loop_one (fun n (x : (Nat → Nat → Int32) × Int32 × Int32 × Int32 × Int32 × Int32) => f10_lanes_l27 g (nI w) n x.1 x.2.1 x.2.2.1 x.2.2.2.1 x.2.2.2.2.1 x.2.2.2.2.2) 16
    (fun j x => ∃ A' u v a b, x = (A', nI u, nI v, a, b, nI (16 - j) + -1) ∧ u + tsum (rowc (fun p q => (nx p).testBit q) 16) (16 - j) = tsum (rowc (fun p q => (nx p).testBit q) 16) 16 ∧ v + tsum (rowc (brd nx) 16) (16 - j) = tsum (rowc (brd nx) 16) 16 ∧ FB10 nx (fun p _ => 16 - j ≤ p) a b ∧ (∀ i, i < 16 → A' 3 i = A 3 i) ∧ ∀ j, j ≠ 3 → j ≠ 45 → j ≠ 46 → j ≠ 47 → A' j = A j)
    (fun P => ∃ a b r A', P = some (r, A') ∧ FB10 nx (fun _ _ => True) a b ∧ r = (if w = 0 then nI (tsum (rowc (fun p q => (nx p).testBit q) 16) 16) else if w = 1 then nI (tsum (rowc (brd nx) 16) 16) else if w = 2 then a else b) ∧ (∀ i, i < 16 → A' 3 i = A 3 i) ∧ ∀ j, j ≠ 3 → j ≠ 45 → j ≠ 46 → j ≠ 47 → A' j = A j) (by decide) ?_ (A, 0, 0, -2, -2, 15) ?_
  · rintro n j x hj ⟨A1, u, v, a, b, rfl, hu, hv, hF, h1, h2⟩
    have e27 : ∀ n A x y z t i, f10_lanes_l27 g (nI w) (n + 1) A x y z t i = f10_lanes_b27 g (nI w) (f10_lanes_l27 g (nI w) n) A x y z t i := fun _ _ _ _ _ _ _ => rfl
    simp only [e27]
    generalize f10_lanes_l27 g (nI w) n = Kn
    unfold f10_lanes_b27
    by_cases h16 : 16 ≤ j
    · have : j = 16 := by omega
      subst this
      left
      rw [if_pos (by decide)]
      have hF' : FB10 nx (fun _ _ => True) a b := by
        rcases hF with ⟨c1, c2, c3⟩ | ⟨p, q, c1, c2, c3, c4, c5, c6, c7⟩
        · exact Or.inl ⟨c1, c2, fun p q _ => c3 p q (Nat.zero_le p)⟩
        · exact Or.inr ⟨p, q, c1, c2, c3, c4, c5, trivial, fun p' q' _ => c7 p' q' (Nat.zero_le p')⟩
      have hu' : u = tsum (rowc (fun p q => (nx p).testBit q) 16) 16 := hu
      have hv' : v = tsum (rowc (brd nx) 16) 16 := hv
      rw [← hu', ← hv']
      simp (maxSteps := 3000000) (disch := omega) only [litI, letv, eqI, leI, ltI, addI, mulI, subI, clI, addneg, at_nI, put_nI, nI_s, orI, shl1I, ifb0, ifb1, Option.bind_some, gx, ux, Nat.add_zero, Nat.zero_add, Nat.not_lt_zero, false_or, or_false, Nat.mul_zero, Nat.zero_mul]
      by_cases c0 : w = 0
      · simp (maxSteps := 3000000) (disch := omega) only [c0, if_true]; exact ⟨a, b, _, A1, rfl, hF', rfl, h1, h2⟩
      by_cases c1 : w = 1
      · simp (maxSteps := 3000000) (disch := omega) only [c1, if_true, if_neg]; exact ⟨a, b, _, A1, rfl, hF', rfl, h1, h2⟩
      by_cases c2 : w = 2
      · simp (maxSteps := 3000000) (disch := omega) only [c2, if_true, if_neg]; exact ⟨a, b, _, A1, rfl, hF', rfl, h1, h2⟩
      · simp (maxSteps := 3000000) (disch := omega) only [c0, c1, c2, if_false]; exact ⟨a, b, _, A1, rfl, hF', rfl, h1, h2⟩
    right
    refine ⟨by omega, ?_⟩
    obtain ⟨p, hp⟩ : ∃ p, 16 - j = p + 1 := ⟨15 - j, by omega⟩
    have hp16 : p < 16 := by omega
    rw [hp, pm1, show 16 - (j + 1) = p by omega]
    rw [hp] at hu hv hF
    rw [if_neg (show ¬ nI p < 0 from nI_pos (by omega))]
    have ha : tsum (rowc (fun p q => (nx p).testBit q) 16) (p + 1) = tsum (rowc (fun p q => (nx p).testBit q) 16) p + cnt (fun q => decide (p < q) && (nx p).testBit q) 16 := rfl
    have hb : tsum (rowc (brd nx) 16) (p + 1) = tsum (rowc (brd nx) 16) p + cnt (fun q => decide (p < q) && brd nx p q) 16 := rfl
    rw [ha] at hu
    rw [hb] at hv
    generalize tsum (rowc (fun p q => (nx p).testBit q) 16) 16 = Tu at hu ⊢
    generalize tsum (rowc (brd nx) 16) 16 = Tv at hv ⊢
    generalize tsum (rowc (fun p q => (nx p).testBit q) 16) p = tu at hu ⊢
    generalize tsum (rowc (brd nx) 16) p = tv at hv ⊢
    refine loop_one (fun n (x : (Nat → Nat → Int32) × Int32 × Int32 × Int32 × Int32 × Int32) => f10_lanes_l36 g (nI w) Kn n x.1 x.2.1 x.2.2.1 x.2.2.2.1 x.2.2.2.2.1 (nI p) x.2.2.2.2.2) (15 - p)
      (fun i x => ∃ A' u v a b, x = (A', nI u, nI v, a, b, nI (16 - i) + -1) ∧ u + (tu + cnt (fun q => decide (p < q) && (nx p).testBit q) (16 - i)) = Tu ∧ v + (tv + cnt (fun q => decide (p < q) && brd nx p q) (16 - i)) = Tv ∧ FB10 nx (fun p' q' => p < p' ∨ (p' = p ∧ 16 - i ≤ q')) a b ∧ (∀ i, i < 16 → A' 3 i = A 3 i) ∧ ∀ j, j ≠ 3 → j ≠ 45 → j ≠ 46 → j ≠ 47 → A' j = A j)
      (fun P => ∃ (s' : (Nat → Nat → Int32) × Int32 × Int32 × Int32 × Int32 × Int32), P = Kn s'.1 s'.2.1 s'.2.2.1 s'.2.2.2.1 s'.2.2.2.2.1 s'.2.2.2.2.2 ∧ ∃ A' u v a b, s' = (A', nI u, nI v, a, b, nI p + -1) ∧ u + tu = Tu ∧ v + tv = Tv ∧ FB10 nx (fun p' _ => p ≤ p') a b ∧ (∀ i, i < 16 → A' 3 i = A 3 i) ∧ ∀ j, j ≠ 3 → j ≠ 45 → j ≠ 46 → j ≠ 47 → A' j = A j) (by omega) ?_ (A1, nI u, nI v, a, b, 15) ?_
    · rintro n i x hi ⟨A2, u, v, a, b, rfl, hu, hv, hF, g1, g2⟩
      have e36 : ∀ n A x y z t i, f10_lanes_l36 g (nI w) Kn (n + 1) A x y z t (nI p) i = f10_lanes_b36 g (nI w) Kn (f10_lanes_l36 g (nI w) Kn n) A x y z t (nI p) i := fun _ _ _ _ _ _ _ => rfl
      simp only [e36]
      generalize f10_lanes_l36 g (nI w) Kn n = Jn
      unfold f10_lanes_b36
      obtain ⟨q, hq⟩ : ∃ q, 16 - i = q + 1 := ⟨15 - i, by omega⟩
      rw [hq, pm1]
      rw [hq] at hu hv hF
      by_cases hqp : q ≤ p
      · left
        have e : q = p := by omega
        subst e
        rw [if_pos (show nI q ≤ nI q by rw [leI (by omega) (by omega)]; omega)]
        have z1 : cnt (fun q' => decide (q < q') && (nx q).testBit q') (q + 1) = 0 := cnt_zero (fun i hi => by rw [decide_eq_false (by omega), Bool.false_and])
        have z2 : cnt (fun q' => decide (q < q') && brd nx q q') (q + 1) = 0 := cnt_zero (fun i hi => by rw [decide_eq_false (by omega), Bool.false_and])
        rw [z1, Nat.add_zero] at hu
        rw [z2, Nat.add_zero] at hv
        refine ⟨(A2, nI u, nI v, a, b, nI q + -1), rfl, A2, u, v, a, b, rfl, hu, hv, ?_, g1, g2⟩
        rcases hF with ⟨c1, c2, c3⟩ | ⟨p, q', c1, c2, c3, c4, c5, c6, c7⟩
        · exact Or.inl ⟨c1, c2, fun p' q' h1 h2 h3 => c3 p' q' (by omega) h2 h3⟩
        · exact Or.inr ⟨p, q', c1, c2, c3, c4, c5, by omega, fun p'' q'' h1 h2 h3 => c7 p'' q'' (by omega) h2 h3⟩
      right
      have hq16 : q < 16 := by omega
      refine ⟨by omega, ?_⟩
      have n3 := hn p hp16
      have i1 : ¬ (nI p < 0 ∨ 16 ≤ (nI p).toNatClampNeg) := nI_in hp16 (by decide)
      rw [if_neg (show ¬ nI q ≤ nI p by rw [leI (by omega) (by omega)]; exact hqp), if_neg i1, gx_nI (by omega), g1 p hp16, n3.1, has10 (by omega) (by omega), show 16 - (i + 1) = q by omega]
      have ca : cnt (fun q' => decide (p < q') && (nx p).testBit q') (q + 1) = cnt (fun q' => decide (p < q') && (nx p).testBit q') q + if (nx p).testBit q then 1 else 0 := by
        show cnt _ q + (if (decide (p < q) && (nx p).testBit q) then 1 else 0) = _
        rw [decide_eq_true (by omega), Bool.true_and]
      have cb : cnt (fun q' => decide (p < q') && brd nx p q') (q + 1) = cnt (fun q' => decide (p < q') && brd nx p q') q + if brd nx p q then 1 else 0 := by
        show cnt _ q + (if (decide (p < q) && brd nx p q) then 1 else 0) = _
        rw [decide_eq_true (by omega), Bool.true_and]
      rw [ca] at hu
      rw [cb] at hv
      have noF : ¬ brd nx p q = true → FB10 nx (fun p' q' => p < p' ∨ (p' = p ∧ q ≤ q')) a b := by
        intro hb
        rcases hF with ⟨c1, c2, c3⟩ | ⟨p0, q0, c1, c2, c3, c4, c5, c6, c7⟩
        · refine Or.inl ⟨c1, c2, fun p' q' h1 h2 h3 => ?_⟩
          by_cases e : p' = p ∧ q' = q
          · rw [e.1, e.2]; exact hb
          · exact c3 p' q' (by omega) h2 h3
        · refine Or.inr ⟨p0, q0, c1, c2, c3, c4, c5, by omega, fun p' q' h1 h2 h3 h4 => ?_⟩
          by_cases e : p' = p ∧ q' = q
          · rw [e.1, e.2] at h4; exact absurd h4 hb
          · exact c7 p' q' (by omega) h2 h3 h4
      by_cases had : (nx p).testBit q = true
      · rw [if_pos had, if_neg n10]
        rw [if_pos had] at hu
        obtain ⟨A3, e, k1, k2⟩ := br10 (g := g) (A := A2) (nx := nx) (p := p) (q := q) hp16 hq16 (by omega) (fun i hi => by rw [g1 i hi]; exact hn i hi) hsym had
        have fr1 : ∀ i, i < 16 → A3 3 i = A 3 i := fun i hi => (k1 i hi).trans (g1 i hi)
        have fr2 : ∀ j, j ≠ 3 → j ≠ 45 → j ≠ 46 → j ≠ 47 → A3 j = A j := fun j a b c d => (k2 j a b c d).trans (g2 j a b c d)
        rw [e, Option.bind_some, nI_s]
        by_cases hb : brd nx p q = true
        · rw [hb, if_pos rfl, if_neg (show ¬ nI 1 = 0 by decide), nI_s]
          rw [if_pos hb] at hv
          refine ⟨(A3, nI (u + 1), nI (v + 1), nI p, nI q, nI q + -1), rfl, A3, u + 1, v + 1, nI p, nI q, rfl, by omega, by omega, Or.inr ⟨p, q, by omega, hq16, hb, rfl, rfl, by omega, fun p' q' h1 h2 h3 h4 => by omega⟩, fr1, fr2⟩
        · simp only [Bool.eq_false_iff.mpr hb, Bool.false_eq_true, if_false]
          rw [if_pos (show nI 0 = (0 : Int32) from rfl)]
          rw [if_neg hb] at hv
          exact ⟨(A3, nI (u + 1), nI v, a, b, nI q + -1), rfl, A3, u + 1, v, a, b, rfl, by omega, by omega, noF hb, fr1, fr2⟩
      · have hb : ¬ brd nx p q = true := fun h => by
          unfold brd at h
          rw [Bool.eq_false_iff.mpr had, Bool.false_and] at h
          exact absurd h (by decide)
        rw [if_neg had, if_pos rfl]
        rw [if_neg had] at hu
        rw [if_neg hb] at hv
        exact ⟨(A2, nI u, nI v, a, b, nI q + -1), rfl, A2, u, v, a, b, rfl, by omega, by omega, noF hb, g1, g2⟩
    · refine ⟨A1, u, v, a, b, rfl, by omega, by omega, ?_, h1, h2⟩
      rcases hF with ⟨c1, c2, c3⟩ | ⟨p0, q0, c1, c2, c3, c4, c5, c6, c7⟩
      · exact Or.inl ⟨c1, c2, fun p' q' h1 h2 h3 => c3 p' q' (by omega) h2 h3⟩
      · exact Or.inr ⟨p0, q0, c1, c2, c3, c4, c5, by omega, fun p' q' h1 h2 h3 => c7 p' q' (by omega) h2 h3⟩
  · exact ⟨A, 0, 0, -2, -2, rfl, Nat.zero_add _, Nat.zero_add _, Or.inl ⟨rfl, rfl, fun p q h1 h2 h3 => by omega⟩, fun _ _ => rfl, fun _ _ _ _ _ => rfl⟩
theorem ok_lanes : OK_lanes INV := by
  rintro σf σA fW AW μf μA x1 hI
  have hI0 := hI
  obtain ⟨T, nx, ⟨b1, b2, b3, b4, b5, b6, b7⟩, -⟩ := hI
  unfold f9_lanes f10_lanes
  rw [in_eq]
  rcases within_c x1 (A := 0) (B := 3) (a := 0) (b := 3) rfl rfl (by decide) (by decide) with ⟨h, _⟩ | ⟨h, w, _, hw, rfl⟩
  · exact ⟨(-1, σA 2), (-1, μA), by rw [if_pos h], by rw [if_pos h], rfl, by rw [cset_id]; exact hI0⟩
  rw [h, if_neg n10, if_neg n10]
  have hn1 : ∀ p, p < 16 → σA 2 1 p = nI (nx p) ∧ nx p < 65536 := fun p hp => ⟨(b4 p hp).1, (b4 p hp).2.2⟩
  have hn2 : ∀ p, p < 16 → μA 3 p = nI (nx p) ∧ nx p < 65536 := fun p hp => ⟨(b4 p hp).2.1, (b4 p hp).2.2⟩
  obtain ⟨a, b, r, A2, e2, hF, hr, g1, g2⟩ := lanes10_c (g := μf) hw hn2 b5
  by_cases c0 : w = 0
  · subst c0
    rw [if_pos (show nI 0 = (0 : Int32) from rfl), lanesAll_c hn1 b5 b6]
    rw [if_pos rfl] at hr
    refine ⟨(nI (tsum (rowc (fun p q => (nx p).testBit q) 16) 16), σA 2), (r, A2), rfl, e2, hr.symm, inv_steps' hI0 (fun _ _ => rfl) g1 g2⟩
  rw [if_neg (show ¬ nI w = 0 by rw [show (0 : Int32) = nI 0 from rfl, eqI (by omega) (by omega)]; exact c0)]
  rw [if_neg c0] at hr
  by_cases c1 : w = 1
  · subst c1
    rw [if_pos rfl] at hr
    obtain ⟨A1, e1, f1, -⟩ := bridges_c (f := σf 2) hn1 b5
    rw [if_pos (show nI 1 = (1 : Int32) from rfl), e1]
    exact ⟨(nI (tsum (rowc (brd nx) 16) 16), A1), (r, A2), rfl, e2, hr.symm, inv_steps' hI0 f1 g1 g2⟩
  rw [if_neg (show ¬ nI w = 1 by rw [show (1 : Int32) = nI 1 from rfl, eqI (by omega) (by omega)]; exact c1)]
  rw [if_neg c1] at hr
  obtain ⟨r1, A1, e1, hB, f1, -⟩ := first_c (f := σf 2) hn1 b5
  rw [e1, Option.bind_some]
  have hI' : INV σf (cset σA 2 A1) fW AW μf A2 := inv_steps' hI0 f1 g1 g2
  rcases hB with ⟨rfl, hno⟩ | ⟨p, q, p1, p2, p3, rfl, p5⟩
  · rcases hF with ⟨rfl, rfl, -⟩ | ⟨p', q', q1, q2, q3, -⟩
    · rw [if_neg (show ¬ (0 : Int32) ≤ -1 by decide)]
      refine ⟨(-2, A1), (r, A2), rfl, e2, ?_, hI'⟩
      show (-2 : Int32) = r
      rw [hr, ite_self]
    · exact absurd q3 (hno p' q' q1 q2)
  · rcases hF with ⟨-, -, hno⟩ | ⟨p', q', q1, q2, q3, rfl, rfl, -, q5⟩
    · exact absurd p3 (hno p q trivial p1 p2)
    · have ep : p = p' ∧ q = q' := by
        have h1 := p5 p' q' q1 q2 q3
        have h2 := q5 p q trivial p1 p2 p3
        omega
      obtain ⟨rfl, rfl⟩ := ep
      rw [if_pos (show (0 : Int32) ≤ nI (p * 16 + q) from nI_pos' (by omega)), show (16 : Int32) = nI 16 from rfl, divI (by omega) (by omega) (by omega), irmI (by omega) (by omega) (by omega), show (p * 16 + q) / 16 = p by omega, show (p * 16 + q) % 16 = q by omega]
      by_cases c2 : w = 2
      · subst c2
        rw [if_pos rfl] at hr
        rw [if_pos (show nI 2 = (2 : Int32) from rfl)]
        exact ⟨(nI p, A1), (r, A2), rfl, e2, hr.symm, hI'⟩
      · rw [if_neg c2] at hr
        rw [if_neg (show ¬ nI w = 2 by rw [show (2 : Int32) = nI 2 from rfl, eqI (by omega) (by omega)]; exact c2)]
        exact ⟨(nI q, A1), (r, A2), rfl, e2, hr.symm, hI'⟩
