/-! one step of all walks -/
/-- what the entry i of the visited adds: q can be its next end -/
def REA (nx : Nat → Nat) (p t S q : Nat) : Prop := ∃ q0, q0 < 16 ∧ rch nx p t S q0 ∧ ((nx q0).testBit q = true ∨ q0 = q)
theorem goOn_c {p m t : Nat} {nx vs W : Nat → Nat} {A A1 : Nat → Nat → Int32} {f f1 : Nat → Int32} (hp : p < 16) (ht : t ≤ 6) (hn : ∀ p, p < 16 → A1 1 p = nI (nx p) ∧ nx p < 65536) (h : WLK p (rch nx p t) (fun _ _ => False) m vs W A f) : ∃ A' f' m' vs' W', f8_goOn f A f1 A1 = some (A', f') ∧ WLK p (rch nx p t) (fun S q => ∃ i, i < m ∧ REA nx p t (vs i) q ∧ S = vs i ||| 2 ^ q) m' vs' W' A' f' ∧ m ≤ m' ∧ ∀ i, i < m → vs' i = vs i := by
  have hm := h.le hp
  -- the entries are sets at which the walks have been
  have isr : ∀ i, i < m → ∃ q, q < 16 ∧ rch nx p t (vs i) q := by
    intro i hi
    obtain ⟨a, b, c, d⟩ := h
    obtain ⟨d1, d2, d3, d4⟩ := d (vs i) (b i hi).2.1
    have ne := d4.mpr ⟨i, hi, rfl⟩
    by_cases ex : ∃ q, q < 16 ∧ rch nx p t (vs i) q
    · exact ex
    · exfalso
      apply ne
      apply Nat.eq_of_testBit_eq
      intro q
      rw [Nat.zero_testBit]
      by_cases h1 : q < 16
      · exact Bool.eq_false_iff.mpr (fun hh => ex ⟨q, h1, (d3 q h1).1.mp hh⟩)
      · by_cases h2 : q < 32
        · refine Bool.eq_false_iff.mpr (fun hh => ?_)
          have := (d3 (q - 16) (by omega)).2
          rw [show 16 + (q - 16) = q by omega] at this
          exact this.mp hh
        · exact hi32 d2 h2
  unfold f8_goOn
  rw [h.1]
  refine loop_one (fun n (x : (Nat → Nat → Int32) × (Nat → Int32) × Int32) => f8_goOn_l7 f1 A1 n x.1 x.2.1 (nI m) x.2.2) m
    (fun i x => ∃ A2 f2 m2 vs2 W2, x = (A2, f2, nI i) ∧ WLK p (rch nx p t) (fun S q => ∃ j, j < i ∧ REA nx p t (vs j) q ∧ S = vs j ||| 2 ^ q) m2 vs2 W2 A2 f2 ∧ m ≤ m2 ∧ ∀ j, j < m → vs2 j = vs j)
    (fun P => ∃ A' f' m' vs' W', P = some (A', f') ∧ WLK p (rch nx p t) (fun S q => ∃ i, i < m ∧ REA nx p t (vs i) q ∧ S = vs i ||| 2 ^ q) m' vs' W' A' f' ∧ m ≤ m' ∧ ∀ i, i < m → vs' i = vs i) (by omega) ?_ (A, f, 0)
    ⟨A, f, m, vs, W, rfl, h.to (fun _ _ _ _ => Iff.rfl) (fun S q _ _ => ⟨False.elim, fun ⟨j, hj, _⟩ => absurd hj (by omega)⟩), Nat.le_refl _, fun _ _ => rfl⟩
  rintro n i x hi ⟨A2, f2, m2, vs2, W2, rfl, hw, hmm, hvs⟩
  have ea : ∀ n A f w i, f8_goOn_l7 f1 A1 (n + 1) A f w i = f8_goOn_b7 f1 A1 (f8_goOn_l7 f1 A1 n) A f w i := fun _ _ _ _ _ => rfl
  simp only [ea]
  generalize f8_goOn_l7 f1 A1 n = Kn
  unfold f8_goOn_b7
  have hm2 := hw.le hp
  by_cases him : m ≤ i
  · left
    have : i = m := by omega
    subst this
    rw [if_pos (by rw [leI (by omega) (by omega)]; omega)]
    exact ⟨A2, f2, m2, vs2, W2, rfl, hw, hmm, hvs⟩
  right
  have him' : i < m := by omega
  refine ⟨him', ?_⟩
  obtain ⟨v1, v2, v3, v4⟩ := hw.2.1 i (by omega)
  rw [hvs i him'] at v1 v2 v3 v4
  obtain ⟨d1, d2, d3, d4⟩ := hw.2.2.2 (vs i) v2
  rw [if_neg (by rw [leI (by omega) (by omega)]; omega), at_nI (show i < 16384 by omega) (by decide), v1, at_nI v2 (by decide), d1, show (65535 : Int32) = nI 65535 from rfl, andI]
  have lo : W2 (vs i) &&& 65535 < 65536 := by
    have : W2 (vs i) &&& 65535 ≤ 65535 := Nat.and_le_right
    omega
  rw [aroundAny_c hn lo, Option.bind_some]
  generalize hR : mset (fun q => anyb (fun p => (W2 (vs i) &&& 65535).testBit p && ((nx p).testBit q || p == q)) 16) 16 = R
  have hRlt : R < 65536 := by rw [← hR]; exact mset_lt _ 16
  have rb : ∀ q, q < 16 → (R.testBit q = true ↔ REA nx p t (vs i) q) := by
    intro q hq
    rw [← hR, mset_bit, decide_eq_true hq, Bool.true_and, anyb_iff]
    unfold REA
    constructor
    · rintro ⟨q0, h1, h2⟩
      rw [Bool.and_eq_true, Nat.testBit_and, Bool.and_eq_true, Bool.or_eq_true, beq_iff_eq] at h2
      exact ⟨q0, h1, (d3 q0 h1).1.mp h2.1.1, h2.2⟩
    · rintro ⟨q0, h1, h2, h3⟩
      refine ⟨q0, h1, ?_⟩
      rw [Bool.and_eq_true, Nat.testBit_and, Bool.and_eq_true, Bool.or_eq_true, beq_iff_eq, show (65535 : Nat) = 2 ^ 16 - 1 from rfl, Nat.testBit_two_pow_sub_one, decide_eq_true h1]
      exact ⟨⟨(d3 q0 h1).1.mpr h2, rfl⟩, h3⟩
  obtain ⟨qq, hqq, hrr⟩ := isr i him'
  have p8 := (rch_ok hp t _ _ hrr).2.2.2.2
  -- its next ends, one by one
  have inner : ∃ A' f', f8_goOn_l43 f1 A1 Kn NF A2 f2 (nI m) (nI i) (nI (vs i)) (nI R) 0 = Kn A' f' (nI m) (nI (i + 1)) ∧ ∃ m' vs' W', WLK p (rch nx p t) (fun S q => ∃ j, j < i + 1 ∧ REA nx p t (vs j) q ∧ S = vs j ||| 2 ^ q) m' vs' W' A' f' ∧ m ≤ m' ∧ ∀ j, j < m → vs' j = vs j := by
    refine loop_one (fun k (x : (Nat → Nat → Int32) × (Nat → Int32) × Int32) => f8_goOn_l43 f1 A1 Kn k x.1 x.2.1 (nI m) (nI i) (nI (vs i)) (nI R) x.2.2) 16
      (fun j x => ∃ A3 f3 m3 vs3 W3, x = (A3, f3, nI j) ∧ WLK p (rch nx p t) (fun S q => (∃ l, l < i ∧ REA nx p t (vs l) q ∧ S = vs l ||| 2 ^ q) ∨ (q < j ∧ REA nx p t (vs i) q ∧ S = vs i ||| 2 ^ q)) m3 vs3 W3 A3 f3 ∧ m ≤ m3 ∧ ∀ j, j < m → vs3 j = vs j)
      (fun P => ∃ A' f', P = Kn A' f' (nI m) (nI (i + 1)) ∧ ∃ m' vs' W', WLK p (rch nx p t) (fun S q => ∃ j, j < i + 1 ∧ REA nx p t (vs j) q ∧ S = vs j ||| 2 ^ q) m' vs' W' A' f' ∧ m ≤ m' ∧ ∀ j, j < m → vs' j = vs j) (by decide) ?_ (A2, f2, 0)
      ⟨A2, f2, m2, vs2, W2, rfl, hw.to (fun _ _ _ _ => Iff.rfl) (fun S q _ _ => ⟨Or.inl, fun h => h.resolve_right (fun h => absurd h.1 (by omega))⟩), hmm, hvs⟩
    rintro k j x hj ⟨A3, f3, m3, vs3, W3, rfl, hw3, hm3, hv3⟩
    have eb : ∀ k A f w i v r l, f8_goOn_l43 f1 A1 Kn (k + 1) A f w i v r l = f8_goOn_b43 f1 A1 Kn (f8_goOn_l43 f1 A1 Kn k) A f w i v r l := fun _ _ _ _ _ _ _ _ => rfl
    simp only [eb]
    unfold f8_goOn_b43
    by_cases h16 : 16 ≤ j
    · left
      have : j = 16 := by omega
      subst this
      rw [if_pos (by decide), nI_s]
      refine ⟨A3, f3, rfl, m3, vs3, W3, hw3.to (fun _ _ _ _ => Iff.rfl) (fun S q _ hq => ?_), hm3, hv3⟩
      constructor
      · rintro (⟨l, h1, h2, h3⟩ | ⟨_, h2, h3⟩)
        · exact ⟨l, by omega, h2, h3⟩
        · exact ⟨i, by omega, h2, h3⟩
      · rintro ⟨l, h1, h2, h3⟩
        by_cases e : l = i
        · subst e; exact Or.inr ⟨hq, h2, h3⟩
        · exact Or.inl ⟨l, by omega, h2, h3⟩
    right
    have hj16 : j < 16 := by omega
    refine ⟨hj16, ?_⟩
    rw [if_neg (ge16 hj16), has9 (by omega) (by omega), nI_s]
    have r := rb j hj16
    by_cases q : R.testBit j = true
    · have hq := r.mp q
      rw [if_pos q, if_neg n10, shl1 (by omega), or_nI]
      have sp : (vs i ||| 2 ^ j).testBit p = true := by rw [or_bit', v3]; rfl
      have s8 : popc (vs i ||| 2 ^ j) 16 ≤ 8 := by
        have := popc_or (S := vs i) hj16
        omega
      obtain ⟨A4, f4, m4, vs4, W4, e1, e2, e3, e4⟩ := add_c hp hw3 (Nat.or_lt_two_pow (n := 16) v2 (pow16 hj16)) hj16 sp s8
      rw [e1, Option.bind_some]
      refine ⟨(A4, f4, nI (j + 1)), rfl, A4, f4, m4, vs4, W4, rfl, e2.to (fun _ _ _ _ => Iff.rfl) (fun S q' _ hq' => ?_), by omega, fun l hl => by rw [e4 l (by omega)]; exact hv3 l hl⟩
      constructor
      · rintro ((h | ⟨h1, h2, h3⟩) | ⟨h1, h2⟩)
        · exact Or.inl h
        · exact Or.inr ⟨by omega, h2, h3⟩
        · subst h1 h2; exact Or.inr ⟨by omega, hq, rfl⟩
      · rintro (h | ⟨h1, h2, h3⟩)
        · exact Or.inl (Or.inl h)
        · by_cases e : q' = j
          · subst e; exact Or.inr ⟨h3, rfl⟩
          · exact Or.inl (Or.inr ⟨by omega, h2, h3⟩)
    · rw [if_neg q, if_pos rfl]
      refine ⟨(A3, f3, nI (j + 1)), rfl, A3, f3, m3, vs3, W3, rfl, hw3.to (fun _ _ _ _ => Iff.rfl) (fun S q' _ hq' => ?_), hm3, hv3⟩
      constructor
      · rintro (h | ⟨h1, h2, h3⟩)
        · exact Or.inl h
        · exact Or.inr ⟨by omega, h2, h3⟩
      · rintro (h | ⟨h1, h2, h3⟩)
        · exact Or.inl h
        · by_cases e : q' = j
          · subst e; exact absurd (r.mpr h2) q
          · exact Or.inr ⟨by omega, h2, h3⟩
  obtain ⟨A', f', e1, m', vs', W', e2, e3, e4⟩ := inner
  exact ⟨(A', f', nI (i + 1)), e1, A', f', m', vs', W', rfl, e2, e3, e4⟩
/-- a step, and it is settled -/
theorem step_c {p m t : Nat} {nx vs W : Nat → Nat} {A A1 : Nat → Nat → Int32} {f f1 : Nat → Int32} (hp : p < 16) (ht : t ≤ 6) (hn : ∀ p, p < 16 → A1 1 p = nI (nx p) ∧ nx p < 65536) (h : WLK p (rch nx p t) (fun _ _ => False) m vs W A f) : ∃ A' f' A'' m' vs' W', f8_goOn f A f1 A1 = some (A', f') ∧ f8_settle f' A' = some A'' ∧ WLK p (rch nx p (t + 1)) (fun _ _ => False) m' vs' W' A'' f' := by
  obtain ⟨A', f', m', vs', W', e1, e2, e3, e4⟩ := goOn_c (f1 := f1) hp ht hn h
  obtain ⟨A'', g1, g2⟩ := settle_c hp e2
  refine ⟨A', f', A'', m', vs', _, e1, g1, g2.to (fun S q hS hq => ?_) (fun _ _ _ _ => Iff.rfl)⟩
  constructor
  · rintro (h1 | ⟨i, hi, ⟨q0, a, b, c⟩, rfl⟩)
    · exact Or.inl h1
    · rcases c with c | rfl
      · exact Or.inr ⟨vs i, q0, b, hq, c, rfl⟩
      · rw [or_in (rch_ok hp t _ _ b).2.2.1]
        exact Or.inl b
  · rintro (h1 | ⟨S0, q0, a, b, c, rfl⟩)
    · exact Or.inl h1
    · have ok := rch_ok hp t _ _ a
      obtain ⟨d1, d2, d3, d4⟩ := h.2.2.2 S0 ok.1
      have ne : W S0 ≠ 0 := fun e => by
        have := (d3 q0 ok.2.1).1.mpr a
        rw [e, Nat.zero_testBit] at this
        exact absurd this (by decide)
      obtain ⟨i, hi, rfl⟩ := d4.mp ne
      exact Or.inr ⟨i, hi, ⟨q0, ok.2.1, a, Or.inl c⟩, rfl⟩
