/-! the best of the class's walks -/
theorem around_c {f : Nat → Int32} {A : Nat → Nat → Int32} {nx : Nat → Nat} {p : Nat} (hp : p < 16) (hn : ∀ p, p < 16 → A 1 p = nI (nx p) ∧ nx p < 65536) : f1_around f A (nI p) = nI (arnd nx p) ∧ arnd nx p < 65536 := by
  refine ⟨?_, Nat.or_lt_two_pow (n := 16) (hn p hp).2 (pow16 hp)⟩
  unfold f1_around arnd
  rw [at_nI hp (by decide), (hn p hp).1, shl1 (by omega), orI]
theorem best60_c {p m k : Nat} {nx vs W v : Nat → Nat} {X : Nat → Int32} {A A1 : Nat → Nat → Int32} {f f1 : Nat → Int32} (hp : p < 16) (hsym : ∀ p q, p < 16 → q < 16 → (nx p).testBit q = (nx q).testBit p) (hn : ∀ p, p < 16 → A1 1 p = nI (nx p) ∧ nx p < 65536) (hX : ∀ p, p < 16 → X p = nI (v p)) (hv : ∀ p, p < 16 → v p ≤ 99) (h : WLK p (rch nx p k) (fun _ _ => False) m vs W A f) :
    ∃ b A', f8_best_l60 16 X f1 A1 (nI p) (nI (k + 1)) NF A f (-1) (-1) 0 = some (nI b, A', f) ∧ b < 65536 ∧ rch nx p (k + 1) b p ∧ (∀ S, rch nx p (k + 1) S p → ¬ BTT v S b) ∧ ∀ S, S < 65536 → A' 0 S = 0 := by
  have hm := h.le hp
  obtain ⟨a, b, c, d⟩ := h
  have one : (1 : Int32) = nI 1 := rfl
  have m1 : (-1 : Int32) = -nI 1 := rfl
  obtain ⟨ar, arl⟩ := around_c (f := f1) hp hn
  -- who gets home is among the visited
  have vis : ∀ S, rch nx p (k + 1) S p → ∃ j, j < m ∧ vs j = S := by
    intro S hS
    obtain ⟨q, hq, h1, -⟩ := (home_iff hp hsym).mpr hS
    have ok := rch_ok hp k S q h1
    obtain ⟨d1, d2, d3, d4⟩ := d S ok.1
    refine d4.mp (fun e => ?_)
    have := (d3 q hq).1.mpr h1
    rw [e, Nat.zero_testBit] at this
    exact absurd this (by decide)
  refine loop_one (fun n (x : (Nat → Nat → Int32) × Int32 × Int32 × Int32) => f8_best_l60 16 X f1 A1 (nI p) (nI (k + 1)) n x.1 f x.2.1 x.2.2.1 x.2.2.2) m
    (fun i x => ∃ A2 l5 l6, x = (A2, l5, l6, nI i) ∧ A2 1 = A 1 ∧ (∀ S, S < 65536 → ((∃ j, j < i ∧ vs j = S) → A2 0 S = 0) ∧ ((¬ ∃ j, j < i ∧ vs j = S) → A2 0 S = nI (W S))) ∧ ((l5 = -1 ∧ l6 = -1 ∧ ∀ j, j < i → ¬ rch nx p (k + 1) (vs j) p) ∨ ∃ b, l5 = nI b ∧ l6 = nI (tsm v b 16) ∧ b < 65536 ∧ rch nx p (k + 1) b p ∧ ∀ j, j < i → rch nx p (k + 1) (vs j) p → ¬ BTT v (vs j) b))
    (fun P => ∃ b A', P = some (nI b, A', f) ∧ b < 65536 ∧ rch nx p (k + 1) b p ∧ (∀ S, rch nx p (k + 1) S p → ¬ BTT v S b) ∧ ∀ S, S < 65536 → A' 0 S = 0) (by omega) ?_ (A, -1, -1, 0)
    ⟨A, -1, -1, rfl, rfl, fun S hS => ⟨fun ⟨j, h, _⟩ => absurd h (by omega), fun _ => (d S hS).1⟩, Or.inl ⟨rfl, rfl, fun j h => absurd h (by omega)⟩⟩
  rintro n i x hi ⟨A2, l5, l6, rfl, h1, h0, hb⟩
  have ea : ∀ n A x y i, f8_best_l60 16 X f1 A1 (nI p) (nI (k + 1)) (n + 1) A f x y i = f8_best_b60 16 X f1 A1 (nI p) (nI (k + 1)) (f8_best_l60 16 X f1 A1 (nI p) (nI (k + 1)) n) A f x y i := fun _ _ _ _ _ => rfl
  simp only [ea]
  generalize f8_best_l60 16 X f1 A1 (nI p) (nI (k + 1)) n = Kn
  unfold f8_best_b60
  rw [a]
  by_cases him : m ≤ i
  · left
    have : i = m := by omega
    subst this
    rw [if_pos (by rw [leI (by omega) (by omega)]; omega)]
    rcases hb with ⟨-, -, no⟩ | ⟨b', rfl, -, b1, b2, b3⟩
    · exfalso
      have r0 : rch nx p (k + 1) (2 ^ p) p := rch_mono (t := 0) (by omega) ⟨rfl, rfl⟩
      obtain ⟨j, hj, e⟩ := vis _ r0
      exact no j hj (by rw [e]; exact r0)
    · refine ⟨b', A2, rfl, b1, b2, fun S hS => ?_, fun S hS => ?_⟩
      · obtain ⟨j, hj, rfl⟩ := vis S hS
        exact b3 j hj hS
      · by_cases ex : ∃ j, j < i ∧ vs j = S
        · exact (h0 S hS).1 ex
        · rw [(h0 S hS).2 ex]
          have : W S = 0 := by
            by_cases w0 : W S = 0
            · exact w0
            · exact absurd ((d S hS).2.2.2.mp w0) ex
          rw [this]; rfl
  right
  have him' : i < m := by omega
  refine ⟨him', ?_⟩
  obtain ⟨v1, v2, v3, v4⟩ := b i him'
  obtain ⟨d1, d2, d3, d4⟩ := d (vs i) v2
  have w1 : A2 0 (vs i) = nI (W (vs i)) := (h0 _ v2).2 (fun ⟨j, h, e⟩ => by
    have := c j i (by omega) (by omega) e
    omega)
  rw [if_neg (by rw [leI (by omega) (by omega)]; omega), h1, at_nI (show i < 16384 by omega) (by decide), v1, at_nI v2 (by decide), w1, ar, andI]
  -- to the next
  have next : ∀ l5' l6', ((l5' = -1 ∧ l6' = -1 ∧ ∀ j, j < i + 1 → ¬ rch nx p (k + 1) (vs j) p) ∨ ∃ b, l5' = nI b ∧ l6' = nI (tsm v b 16) ∧ b < 65536 ∧ rch nx p (k + 1) b p ∧ ∀ j, j < i + 1 → rch nx p (k + 1) (vs j) p → ¬ BTT v (vs j) b) → ∃ s' : (Nat → Nat → Int32) × Int32 × Int32 × Int32, f8_best_b157 16 X f1 A1 (nI p) (nI (k + 1)) Kn A2 f l5' l6' (nI i) (nI (vs i)) = Kn s'.1 f s'.2.1 s'.2.2.1 s'.2.2.2 ∧ ∃ A2 l5 l6, s' = (A2, l5, l6, nI (i + 1)) ∧ A2 1 = A 1 ∧ (∀ S, S < 65536 → ((∃ j, j < i + 1 ∧ vs j = S) → A2 0 S = 0) ∧ ((¬ ∃ j, j < i + 1 ∧ vs j = S) → A2 0 S = nI (W S))) ∧ ((l5 = -1 ∧ l6 = -1 ∧ ∀ j, j < i + 1 → ¬ rch nx p (k + 1) (vs j) p) ∨ ∃ b, l5 = nI b ∧ l6 = nI (tsm v b 16) ∧ b < 65536 ∧ rch nx p (k + 1) b p ∧ ∀ j, j < i + 1 → rch nx p (k + 1) (vs j) p → ¬ BTT v (vs j) b) := by
    intro l5' l6' hh
    unfold f8_best_b157
    simp only [letv]
    rw [put_nI v2 (by decide), nI_s]
    refine ⟨(updA A2 0 (upd (A2 0) (vs i) 0), l5', l6', nI (i + 1)), rfl, _, l5', l6', rfl, (updA_n (by decide)).trans h1, fun S hS => ?_, hh⟩
    rw [updA_s]
    by_cases e : S = vs i
    · subst e
      rw [upd_s]
      exact ⟨fun _ => rfl, fun h => absurd ⟨i, by omega, rfl⟩ h⟩
    · rw [upd_n e]
      refine ⟨fun ⟨j, hj, h⟩ => (h0 S hS).1 ⟨j, ?_, h⟩, fun h => (h0 S hS).2 (fun ⟨j, hj, h'⟩ => h ⟨j, by omega, h'⟩)⟩
      by_cases u : j = i
      · subst u; exact absurd h.symm e
      · omega
  have wlt : W (vs i) &&& arnd nx p < 65536 := by
    have : W (vs i) &&& arnd nx p ≤ arnd nx p := Nat.and_le_right
    omega
  have home : W (vs i) &&& arnd nx p ≠ 0 ↔ rch nx p (k + 1) (vs i) p := by
    rw [← home_iff hp hsym]
    constructor
    · intro ne
      by_cases ex : ∃ q, q < 16 ∧ rch nx p k (vs i) q ∧ (q = p ∨ (nx p).testBit q = true)
      · exact ex
      · exfalso
        apply ne
        apply Nat.eq_of_testBit_eq
        intro q
        rw [Nat.zero_testBit, Nat.testBit_and]
        by_cases hq : q < 16
        · refine Bool.eq_false_iff.mpr (fun hh => ex ⟨q, hq, ?_⟩)
          rw [Bool.and_eq_true] at hh
          exact ⟨(d3 q hq).1.mp hh.1, arnd_bit.mp hh.2⟩
        · rw [hi_bit arl hq, Bool.and_false]
    · rintro ⟨q, hq, h1, h2⟩ e
      have : (W (vs i) &&& arnd nx p).testBit q = true := by
        rw [Nat.testBit_and, (d3 q hq).1.mpr h1, arnd_bit.mpr h2]; rfl
      rw [e, Nat.zero_testBit] at this
      exact absurd this (by decide)
  by_cases hh : rch nx p (k + 1) (vs i) p
  · rw [if_neg (by rw [show (0 : Int32) = nI 0 from rfl, eqI (by omega) (by omega)]; exact home.mpr hh)]
    unfold f8_best_b104
    rw [if_neg n10, sum9 hX v2, Option.bind_some]
    unfold f8_best_b121
    rw [if_neg n10]
    have l1 := tsm_le (S := vs i) hv 16 (Nat.le_refl _)
    have mine : ∀ j, j < i + 1 → rch nx p (k + 1) (vs j) p → (∀ j, j < i → rch nx p (k + 1) (vs j) p → ¬ BTT v (vs j) (vs i)) → ¬ BTT v (vs j) (vs i) := by
      intro j hj hr hall
      by_cases e : j = i
      · subst e; unfold BTT; omega
      · exact hall j (by omega) hr
    rcases hb with ⟨rfl, rfl, no⟩ | ⟨b', rfl, rfl, b1, b2, b3⟩
    · rw [if_pos (by rw [m1, neg_lt (by omega) (by omega) (by omega)]; trivial)]
      exact next _ _ (Or.inr ⟨vs i, rfl, rfl, v2, hh, fun j hj hr => mine j hj hr (fun j hj hr => absurd hr (no j hj))⟩)
    · have l2 := tsm_le (S := b') hv 16 (Nat.le_refl _)
      have upd1 : BTT v (vs i) b' → ∀ j, j < i + 1 → rch nx p (k + 1) (vs j) p → ¬ BTT v (vs j) (vs i) := fun hB j hj hr => mine j hj hr (fun j hj hr => by
        have := b3 j hj hr
        unfold BTT at this hB ⊢
        omega)
      have keep1 : ¬ BTT v (vs i) b' → ∀ j, j < i + 1 → rch nx p (k + 1) (vs j) p → ¬ BTT v (vs j) b' := fun hB j hj hr => by
        by_cases e : j = i
        · subst e; exact hB
        · exact b3 j (by omega) hr
      by_cases c1 : tsm v b' 16 < tsm v (vs i) 16
      · rw [if_pos (by rw [ltI (by omega) (by omega)]; exact c1)]
        exact next _ _ (Or.inr ⟨vs i, rfl, rfl, v2, hh, upd1 (Or.inl c1)⟩)
      rw [if_neg (by rw [ltI (by omega) (by omega)]; exact c1)]
      by_cases c2 : tsm v (vs i) 16 = tsm v b' 16
      · rw [if_pos (by rw [c2])]
        by_cases c3 : b' ≤ vs i
        · rw [if_pos (by rw [leI (by omega) (by omega)]; exact c3)]
          exact next _ _ (Or.inr ⟨b', rfl, rfl, b1, b2, keep1 (by unfold BTT; omega)⟩)
        · rw [if_neg (by rw [leI (by omega) (by omega)]; exact c3)]
          exact next _ _ (Or.inr ⟨vs i, rfl, rfl, v2, hh, upd1 (Or.inr ⟨c2, by omega⟩)⟩)
      · rw [if_neg (by rw [eqI (by omega) (by omega)]; exact c2)]
        exact next _ _ (Or.inr ⟨b', rfl, rfl, b1, b2, keep1 (by unfold BTT; omega)⟩)
  · have e0 : W (vs i) &&& arnd nx p = 0 := Classical.not_not.mp (fun h => hh (home.mp h))
    rw [e0, if_pos (show nI 0 = (0 : Int32) from rfl)]
    unfold f8_best_b104
    rw [if_pos rfl]
    unfold f8_best_b121
    rw [if_pos rfl]
    have no : ∀ j, j < i + 1 → rch nx p (k + 1) (vs j) p → j < i := fun j hj hr => by
      by_cases e : j = i
      · subst e; exact absurd hr hh
      · omega
    refine next _ _ ?_
    rcases hb with ⟨h1, h2, h3⟩ | ⟨b', h1, h2, b1, b2, b3⟩
    · exact Or.inl ⟨h1, h2, fun j hj hr => h3 j (no j hj hr) hr⟩
    · exact Or.inr ⟨b', h1, h2, b1, b2, fun j hj hr => b3 j (no j hj hr) hr⟩
theorem best_c {p k : Nat} {nx v : Nat → Nat} {X : Nat → Int32} {A A1 : Nat → Nat → Int32} {f f1 : Nat → Int32} (hp : p < 16) (hk : k < 8) (hsym : ∀ p q, p < 16 → q < 16 → (nx p).testBit q = (nx q).testBit p) (hn : ∀ p, p < 16 → A1 1 p = nI (nx p) ∧ nx p < 65536) (hX : ∀ p, p < 16 → X p = nI (v p)) (hv : ∀ p, p < 16 → v p ≤ 99) (h0 : ∀ S, S < 65536 → A 0 S = 0) :
    ∃ b A' f', f8_best f A 16 X f1 A1 (nI p) (nI (k + 1)) = some (nI b, A', f') ∧ b < 65536 ∧ rch nx p (k + 1) b p ∧ (∀ S, rch nx p (k + 1) S p → ¬ BTT v S b) ∧ ∀ S, S < 65536 → A' 0 S = 0 := by
  unfold f8_best
  simp only [letv]
  have w0 : WLK p (fun _ _ => False) (fun _ _ => False) 0 (fun _ => 0) (fun _ => 0) A (upd f 2 0) := ⟨upd_s, fun i hi => absurd hi (by omega), fun i j hi => absurd hi (by omega), fun S hS => ⟨h0 S hS, (show (0 : Nat) < 4294967296 by decide), fun q hq => ⟨by rw [Nat.zero_testBit]; exact ⟨fun h => absurd h (by decide), False.elim⟩, by rw [Nat.zero_testBit]; exact ⟨fun h => absurd h (by decide), False.elim⟩⟩, ⟨fun h => absurd rfl h, fun ⟨i, hi, _⟩ => absurd hi (by omega)⟩⟩⟩
  have p8 : popc (2 ^ p) 16 ≤ 8 := by
    have := (rch_ok (nx := nx) hp 0 (2 ^ p) p ⟨rfl, rfl⟩).2.2.2.2
    omega
  obtain ⟨A2, f2, m2, vs2, W2, e1, e2, -, -⟩ := add_c (q := p) hp w0 (pow16 hp) hp Nat.testBit_two_pow_self p8
  obtain ⟨A3, g1, g2⟩ := settle_c hp e2
  rw [shl1 (by omega), e1, Option.bind_some, g1, Option.bind_some]
  have g3 : WLK p (rch nx p 0) (fun _ _ => False) m2 vs2 (fun S => stw (W2 S)) A3 f2 := g2.to (fun S q _ _ => ⟨fun h => (h.resolve_left id).resolve_left id, fun h => Or.inr (Or.inr h)⟩) (fun _ _ _ _ => Iff.rfl)
  refine loop_one (fun n (x : (Nat → Nat → Int32) × (Nat → Int32) × Int32) => f8_best_l22 16 X f1 A1 (nI p) (nI (k + 1)) n x.1 x.2.1 x.2.2) k
    (fun j x => ∃ A4 f4 m4 vs4 W4, x = (A4, f4, nI (j + 1)) ∧ WLK p (rch nx p j) (fun _ _ => False) m4 vs4 W4 A4 f4)
    (fun P => ∃ b A' f', P = some (nI b, A', f') ∧ b < 65536 ∧ rch nx p (k + 1) b p ∧ (∀ S, rch nx p (k + 1) S p → ¬ BTT v S b) ∧ ∀ S, S < 65536 → A' 0 S = 0) (by omega) ?_ (A3, f2, 1) ⟨A3, f2, m2, vs2, _, rfl, g3⟩
  rintro n j x hj ⟨A4, f4, m4, vs4, W4, rfl, hw⟩
  have ea : ∀ n A f i, f8_best_l22 16 X f1 A1 (nI p) (nI (k + 1)) (n + 1) A f i = f8_best_b22 16 X f1 A1 (nI p) (nI (k + 1)) (f8_best_l22 16 X f1 A1 (nI p) (nI (k + 1)) n) A f i := fun _ _ _ _ => rfl
  simp only [ea]
  generalize f8_best_l22 16 X f1 A1 (nI p) (nI (k + 1)) n = Kn
  unfold f8_best_b22
  by_cases hjk : k ≤ j
  · left
    have : j = k := by omega
    subst this
    rw [if_pos (by rw [leI (by omega) (by omega)]; omega)]
    obtain ⟨b, A', r1, r2, r3, r4, r5⟩ := best60_c (f1 := f1) hp hsym hn hX hv hw
    exact ⟨b, A', f4, r1, r2, r3, r4, r5⟩
  · right
    refine ⟨by omega, ?_⟩
    obtain ⟨A5, f5, A6, m6, vs6, W6, s1, s2, s3⟩ := step_c (f1 := f1) hp (by omega) hn hw
    rw [if_neg (by rw [leI (by omega) (by omega)]; omega), if_neg (show ¬ (8 : Int32) ≤ nI (j + 1) by rw [show (8 : Int32) = nI 8 from rfl, leI (by omega) (by omega)]; omega), s1, Option.bind_some, s2, Option.bind_some, nI_s]
    exact ⟨(A6, f5, nI (j + 1 + 1)), rfl, A6, f5, m6, vs6, W6, rfl, s3⟩
