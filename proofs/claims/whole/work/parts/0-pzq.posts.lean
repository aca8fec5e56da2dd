/-! POSTS -/
def dom (nx : Nat → Nat) (U S : Nat) : Prop := ∀ u, u < 16 → U.testBit u = true → ∃ p, p < 16 ∧ S.testBit p = true ∧ (p = u ∨ (nx p).testBit u = true)
def VAL (nx : Nat → Nat) (U many S : Nat) : Prop := S < 65536 ∧ popc S 16 ≤ many ∧ dom nx U S
def sub16 (S T : Nat) : Prop := ∀ i, S.testBit i = true → T.testBit i = true
theorem hi_bit {a i : Nat} (ha : a < 65536) (hi : ¬ i < 16) : a.testBit i = false := Nat.testBit_lt_two_pow (Nat.lt_of_lt_of_le ha (Nat.pow_le_pow_right (n := 2) (i := 16) (by decide) (by omega)))
theorem popc_cut {S j : Nat} (hS : S < 65536) (hj : j < 16) (hb : S.testBit j = true) : popc (cut1 S j) 16 + 1 = popc S 16 := by
  rw [popc_cnt, popc_cnt]
  exact (cnt_set (g := fun i => (cut1 S j).testBit i) (h := fun i => S.testBit i) (q := j) hj (by show (cut1 S j).testBit j = false; rw [cut1_bit hS]; simp) hb (fun i _ hne => by show S.testBit i = (cut1 S j).testBit i; rw [cut1_bit hS]; simp [hne])).symm
theorem popc_or {S j : Nat} (hj : j < 16) : popc (S ||| 2 ^ j) 16 ≤ popc S 16 + 1 := by
  rw [popc_cnt, popc_cnt]
  by_cases hb : S.testBit j = true
  · rw [cnt_congr (h := fun i => S.testBit i) (fun i _ => by
      show (S ||| 2 ^ j).testBit i = S.testBit i
      rw [or_bit']
      by_cases e : i = j
      · subst e; simp [hb]
      · simp [e])]
    omega
  · rw [cnt_set (g := fun i => S.testBit i) (h := fun i => (S ||| 2 ^ j).testBit i) (q := j) hj (Bool.eq_false_iff.mpr hb) (by show (S ||| 2 ^ j).testBit j = true; rw [or_bit']; simp) (fun i _ hne => by show (S ||| 2 ^ j).testBit i = S.testBit i; rw [or_bit']; simp [hne])]
    exact Nat.le_refl _
theorem lowest_c {U : Nat} (hU : U < 65536) (h0 : U ≠ 0) : ∃ u, u < 16 ∧ U.testBit u = true ∧ f9_lowestOf (nI U) = some (nI u) := by
  have ex : ∃ i, i < 16 ∧ U.testBit i = true := by
    by_cases q : ∃ i, i < 16 ∧ U.testBit i = true
    · exact q
    · exfalso
      apply h0
      apply Nat.eq_of_testBit_eq
      intro i
      rw [Nat.zero_testBit]
      by_cases hi : i < 16
      · exact Bool.eq_false_iff.mpr (fun h => q ⟨i, hi, h⟩)
      · exact hi_bit hU hi
  obtain ⟨u, hu, hb, hno⟩ := least_ex ex
  refine ⟨u, hu, hb, ?_⟩
  unfold f9_lowestOf
  refine loop_one (fun n (x : Int32) => f9_lowestOf_l2 (nI U) n x) u (fun j x => x = nI j) (fun a => a = some (nI u)) (by omega) ?_ 0 rfl
  rintro n j x hj rfl
  have e2 : ∀ n i, f9_lowestOf_l2 (nI U) (n + 1) i = f9_lowestOf_b2 (nI U) (f9_lowestOf_l2 (nI U) n) i := fun _ _ => rfl
  simp only [e2]
  unfold f9_lowestOf_b2
  rw [if_neg (show ¬ (31 : Int32) ≤ nI j by rw [show (31 : Int32) = nI 31 from rfl, leI (by omega) (by omega)]; omega), has9 (by omega) (by omega), nI_s]
  by_cases e : j = u
  · subst e
    left
    rw [if_pos hb, if_neg n10]
  · right
    rw [if_neg (hno j (by omega)), if_pos rfl]
    exact ⟨by omega, nI (j + 1), rfl, rfl⟩
def arnd (nx : Nat → Nat) (p : Nat) : Nat := nx p ||| 2 ^ p
theorem arnd_bit {nx : Nat → Nat} {p i : Nat} : (arnd nx p).testBit i = true ↔ (i = p ∨ (nx p).testBit i = true) := by
  unfold arnd
  rw [or_bit', Bool.or_eq_true, beq_iff_eq]
  exact ⟨fun h => h.symm, fun h => h.symm⟩
def cutA (U V : Nat) : Nat := mset (fun i => U.testBit i && !V.testBit i) 16
theorem cutA_bit {U V i : Nat} : (cutA U V).testBit i = true ↔ (i < 16 ∧ U.testBit i = true ∧ ¬ V.testBit i = true) := by
  unfold cutA
  rw [mset_bit, Bool.and_eq_true, decide_eq_true_eq, Bool.and_eq_true, Bool.not_eq_true', ← Bool.not_eq_true]
theorem dom_cut {nx : Nat → Nat} {U S j : Nat} (hS : S < 65536) (h : dom nx U S) : dom nx (cutA U (arnd nx j)) (cut1 S j) := by
  intro u hu hb
  rw [cutA_bit] at hb
  obtain ⟨p, hp, h1, h2⟩ := h u hu hb.2.1
  have hpj : p ≠ j := fun e => by
    subst e
    apply hb.2.2
    rw [arnd_bit]
    rcases h2 with h2 | h2
    · exact Or.inl h2.symm
    · exact Or.inr h2
  exact ⟨p, hp, by rw [cut1_bit hS, h1]; simp [hpj], h2⟩
theorem dom_or {nx : Nat → Nat} {U S j : Nat} (hj : j < 16) (h : dom nx (cutA U (arnd nx j)) S) : dom nx U (S ||| 2 ^ j) := by
  intro u hu hb
  by_cases q : (arnd nx j).testBit u = true
  · rw [arnd_bit] at q
    refine ⟨j, hj, by rw [or_bit']; simp, ?_⟩
    rcases q with q | q
    · exact Or.inl q.symm
    · exact Or.inr q
  · obtain ⟨p, hp, h1, h2⟩ := h u hu (cutA_bit.mpr ⟨hu, hb, q⟩)
    exact ⟨p, hp, by rw [or_bit', h1]; rfl, h2⟩
theorem or_back {C S j : Nat} (hS : S < 65536) (hb : S.testBit j = true) : (C ||| 2 ^ j) ||| cut1 S j = C ||| S := by
  apply Nat.eq_of_testBit_eq
  intro i
  rw [Nat.testBit_or, or_bit', Nat.testBit_or, cut1_bit hS]
  by_cases e : i = j
  · subst e; simp [hb]
  · rw [beq_eq_false_iff_ne.mpr e]; simp
theorem posts_rec {f : Nat → Int32} {A : Nat → Nat → Int32} {nx : Nat → Nat} {T : Nat} (hn : ∀ p, p < 16 → A 1 p = nI (nx p) ∧ nx p < 65536) (htold : ∀ p q, p < 16 → (nx p).testBit q = true → T.testBit p = true ∧ T.testBit q = true) (hsym : ∀ p q, p < 16 → q < 16 → (nx p).testBit q = (nx q).testBit p) : ∀ many d C U, many ≤ 16 → many < d → C < 65536 → U < 65536 → sub16 U T → ∃ r, f1_leastPosts_rec d f A (nI C) (nI U) (nI many) = some r ∧ ((r = -1 ∧ ∀ S, ¬ VAL nx U many S) ∨ ∃ S, VAL nx U many S ∧ sub16 S T ∧ r = nI (C ||| S) ∧ ∀ S', VAL nx U many S' → C ||| S ≤ C ||| S') := by
  intro many
  induction many with
  | zero =>
    intro d C U _ hd hC hU _
    obtain ⟨d', rfl⟩ : ∃ i, d = i + 1 := ⟨d - 1, by omega⟩
    show ∃ r, f1_leastPosts (f1_leastPosts_rec d') f A (nI C) (nI U) (nI 0) = some r ∧ _
    unfold f1_leastPosts
    by_cases h0 : U = 0
    · subst h0
      rw [if_pos (show nI 0 = (0 : Int32) from rfl)]
      refine ⟨nI C, rfl, Or.inr ⟨0, ⟨by decide, by decide, fun u _ h => by rw [Nat.zero_testBit] at h; exact absurd h (by decide)⟩, fun i h => by rw [Nat.zero_testBit] at h; exact absurd h (by decide), by rw [Nat.or_zero], fun S' _ => by rw [Nat.or_zero]; exact Nat.left_le_or⟩⟩
    · rw [if_neg (show ¬ nI U = 0 by rw [show (0 : Int32) = nI 0 from rfl, eqI (by omega) (by omega)]; exact h0), if_neg (show ¬ (0 : Int32) < nI 0 by decide)]
      refine ⟨-1, rfl, Or.inl ⟨rfl, fun S hv => ?_⟩⟩
      obtain ⟨u, hu, hb, -⟩ := lowest_c hU h0
      obtain ⟨p, hp, h1, -⟩ := hv.2.2 u hu hb
      have := popc_pos (n := 16) h1 hp
      have := hv.2.1
      omega
  | succ many ih =>
    intro d C U hm hd hC hU hUT
    obtain ⟨d', rfl⟩ : ∃ i, d = i + 1 := ⟨d - 1, by omega⟩
    show ∃ r, f1_leastPosts (f1_leastPosts_rec d') f A (nI C) (nI U) (nI (many + 1)) = some r ∧ _
    unfold f1_leastPosts
    by_cases h0 : U = 0
    · subst h0
      rw [if_pos (show nI 0 = (0 : Int32) from rfl)]
      refine ⟨nI C, rfl, Or.inr ⟨0, ⟨by decide, by rw [show popc 0 16 = 0 by decide]; omega, fun u _ h => by rw [Nat.zero_testBit] at h; exact absurd h (by decide)⟩, fun i h => by rw [Nat.zero_testBit] at h; exact absurd h (by decide), by rw [Nat.or_zero], fun S' _ => by rw [Nat.or_zero]; exact Nat.left_le_or⟩⟩
    rw [if_neg (show ¬ nI U = 0 by rw [show (0 : Int32) = nI 0 from rfl, eqI (by omega) (by omega)]; exact h0), if_pos (show (0 : Int32) < nI (many + 1) by rw [show (0 : Int32) = nI 0 from rfl, ltI (by omega) (by omega)]; omega)]
    obtain ⟨u, hu, hb, hlo⟩ := lowest_c hU h0
    have aru : ∀ p, p < 16 → f1_around f A (nI p) = nI (arnd nx p) := fun p hp => by
      unfold f1_around arnd
      rw [at_nI hp (by decide), (hn p hp).1, shl1 (by omega), orI]
    have arl : ∀ p, p < 16 → arnd nx p < 65536 := fun p hp => Nat.or_lt_two_pow (hn p hp).2 (pow16 hp)
    rw [hlo, Option.bind_some, aru u hu]
    have arT : ∀ p, p < 16 → (arnd nx u).testBit p = true → T.testBit p = true := fun p _ h => by
      rw [arnd_bit] at h
      rcases h with h | h
      · rw [h]; exact hUT u hb
      · exact (htold u p hu h).2
    refine loop_one (fun k (x : Int32 × Int32) => f1_leastPosts_l28 (f1_leastPosts_rec d') f A (nI C) (nI U) (nI (many + 1)) k (nI (arnd nx u)) x.1 x.2) 16
      (fun j x => x.2 = nI j ∧ ((x.1 = -1 ∧ ∀ S, VAL nx U (many + 1) S → ∀ p, p < j → (arnd nx u).testBit p = true → ¬ S.testBit p = true) ∨ ∃ S, VAL nx U (many + 1) S ∧ sub16 S T ∧ x.1 = nI (C ||| S) ∧ ∀ S', VAL nx U (many + 1) S' → (∃ p, p < j ∧ (arnd nx u).testBit p = true ∧ S'.testBit p = true) → C ||| S ≤ C ||| S'))
      (fun P => ∃ r, P = some r ∧ ((r = -1 ∧ ∀ S, ¬ VAL nx U (many + 1) S) ∨ ∃ S, VAL nx U (many + 1) S ∧ sub16 S T ∧ r = nI (C ||| S) ∧ ∀ S', VAL nx U (many + 1) S' → C ||| S ≤ C ||| S')) (by decide) ?_ (-1, 0) ⟨rfl, Or.inl ⟨rfl, fun S _ p h => absurd h (by omega)⟩⟩
    rintro k j ⟨l5, _⟩ hj ⟨rfl, hP⟩
    have ea : ∀ k x i, f1_leastPosts_l28 (f1_leastPosts_rec d') f A (nI C) (nI U) (nI (many + 1)) (k + 1) (nI (arnd nx u)) x i = f1_leastPosts_b28 (f1_leastPosts_rec d') f A (nI C) (nI U) (nI (many + 1)) (f1_leastPosts_l28 (f1_leastPosts_rec d') f A (nI C) (nI U) (nI (many + 1)) k) (nI (arnd nx u)) x i := fun _ _ _ => rfl
    simp only [ea]
    generalize f1_leastPosts_l28 (f1_leastPosts_rec d') f A (nI C) (nI U) (nI (many + 1)) k = Kn
    unfold f1_leastPosts_b28
    have hits : ∀ S, VAL nx U (many + 1) S → ∃ p, p < 16 ∧ (arnd nx u).testBit p = true ∧ S.testBit p = true := fun S hv => by
      obtain ⟨p, hp, h1, h2⟩ := hv.2.2 u hu hb
      refine ⟨p, hp, ?_, h1⟩
      rw [arnd_bit]
      rcases h2 with h2 | h2
      · exact Or.inl h2
      · right; rw [hsym u p hu hp]; exact h2
    by_cases h16 : 16 ≤ j
    · have : j = 16 := by omega
      subst this
      left
      rw [if_pos (by decide)]
      rcases hP with ⟨h1, h2⟩ | ⟨S, h1, h2, h3, h4⟩
      · refine ⟨l5, rfl, Or.inl ⟨h1, fun S hv => ?_⟩⟩
        obtain ⟨p, a, c, e⟩ := hits S hv
        exact h2 S hv p a c e
      · exact ⟨l5, rfl, Or.inr ⟨S, h1, h2, h3, fun S' hv => h4 S' hv (hits S' hv)⟩⟩
    right
    have hj16 : j < 16 := by omega
    refine ⟨hj16, ?_⟩
    have au := arl u hu
    rw [if_neg (ge16 hj16), has9 (by omega) (by omega), nI_s]
    by_cases hbj : ¬ (arnd nx u).testBit j = true
    · rw [if_neg hbj, if_pos rfl]
      refine ⟨(l5, nI (j + 1)), rfl, rfl, ?_⟩
      rcases hP with ⟨h1, h2⟩ | ⟨S, h1, h2, h3, h4⟩
      · refine Or.inl ⟨h1, fun S hv p hp ha => ?_⟩
        by_cases e : p = j
        · subst e; exact absurd ha hbj
        · exact h2 S hv p (by omega) ha
      · refine Or.inr ⟨S, h1, h2, h3, fun S' hv hx => h4 S' hv ?_⟩
        obtain ⟨p, a, c, e⟩ := hx
        by_cases e2 : p = j
        · subst e2; exact absurd c hbj
        · exact ⟨p, by omega, c, e⟩
    replace hbj : (arnd nx u).testBit j = true := Classical.not_not.mp hbj
    rw [if_pos hbj, if_neg n10, aru j hj16, shl1 (by omega), or_nI, show nI U &&& (nI (arnd nx j) ^^^ -1) = nI (cutA U (arnd nx j)) from andn_c hU, show nI (many + 1) - 1 = nI many from subI (a := many + 1) (b := 1) (by omega)]
    have Clt : C ||| 2 ^ j < 65536 := Nat.or_lt_two_pow hC (pow16 hj16)
    obtain ⟨r, r1, r2⟩ := ih d' (C ||| 2 ^ j) (cutA U (arnd nx j)) (by omega) (by omega) Clt (mset_lt _ 16) (fun i hi => hUT i (cutA_bit.mp hi).2.1)
    rw [r1, Option.bind_some]
    have sub : ∀ S, VAL nx U (many + 1) S → S.testBit j = true → VAL nx (cutA U (arnd nx j)) many (cut1 S j) := fun S hv hb => by
      have := popc_cut hv.1 hj16 hb
      have := hv.2.1
      exact ⟨cut1_lt _ _, by omega, dom_cut hv.1 hv.2.2⟩
    rcases r2 with ⟨rfl, hno⟩ | ⟨S1, v1, v2, rfl, v4⟩
    · rw [if_pos rfl]
      refine ⟨(l5, nI (j + 1)), rfl, rfl, ?_⟩
      rcases hP with ⟨h1, h2⟩ | ⟨S, h1, h2, h3, h4⟩
      · refine Or.inl ⟨h1, fun S hv p hp ha hs => ?_⟩
        by_cases e : p = j
        · subst e; exact hno _ (sub S hv hs)
        · exact h2 S hv p (by omega) ha hs
      · refine Or.inr ⟨S, h1, h2, h3, fun S' hv hx => ?_⟩
        obtain ⟨p, a, c, e⟩ := hx
        by_cases e2 : p = j
        · subst e2; exact absurd (sub S' hv e) (hno _)
        · exact h4 S' hv ⟨p, by omega, c, e⟩
    · have lt1 : (C ||| 2 ^ j) ||| S1 < 2 ^ 16 := Nat.or_lt_two_pow Clt v1.1
      replace lt1 : (C ||| 2 ^ j) ||| S1 < 65536 := lt1
      have ne1 : ¬ nI ((C ||| 2 ^ j) ||| S1) = -1 := by
        rw [show (-1 : Int32) = -nI 1 from rfl, eq_neg (by omega) (by omega) (by omega)]; exact not_false
      rw [if_neg ne1]
      have e1 : (C ||| 2 ^ j) ||| S1 = C ||| (S1 ||| 2 ^ j) := by rw [Nat.or_assoc, Nat.or_comm (2 ^ j)]
      have vS : VAL nx U (many + 1) (S1 ||| 2 ^ j) := ⟨Nat.or_lt_two_pow v1.1 (pow16 hj16), by have := popc_or (S := S1) hj16; have := v1.2.1; omega, dom_or hj16 v1.2.2⟩
      have tS : sub16 (S1 ||| 2 ^ j) T := fun i hi => by
        rw [or_bit', Bool.or_eq_true, beq_iff_eq] at hi
        rcases hi with hi | rfl
        · exact v2 i hi
        · exact arT i hj16 hbj
      have mS : ∀ S', VAL nx U (many + 1) S' → S'.testBit j = true → C ||| (S1 ||| 2 ^ j) ≤ C ||| S' := fun S' hv hb => by
        have := v4 _ (sub S' hv hb)
        rw [or_back hv.1 hb, e1] at this
        exact this
      rw [e1] at lt1 ⊢
      generalize hSS : S1 ||| 2 ^ j = S2 at *
      rcases hP with ⟨h1, h2⟩ | ⟨S, h1, h2, h3, h4⟩
      · have h1' : l5 = -1 := h1
        rw [if_pos h1']
        refine ⟨(nI (C ||| S2), nI (j + 1)), rfl, rfl, Or.inr ⟨S2, vS, tS, rfl, fun S' hv hx => ?_⟩⟩
        obtain ⟨p, a, c, e⟩ := hx
        by_cases e2 : p = j
        · subst e2; exact mS S' hv e
        · exact absurd e (h2 S' hv p (by omega) c)
      · have h3' : l5 = nI (C ||| S) := h3
        have ltS : C ||| S < 65536 := Nat.or_lt_two_pow (n := 16) hC h1.1
        rw [h3', if_neg (show ¬ nI (C ||| S) = -1 by rw [show (-1 : Int32) = -nI 1 from rfl, eq_neg (by omega) (by omega) (by omega)]; exact not_false)]
        by_cases q : C ||| S ≤ C ||| S2
        · rw [if_pos (show nI (C ||| S) ≤ nI (C ||| S2) by rw [leI (by omega) (by omega)]; exact q)]
          refine ⟨(nI (C ||| S), nI (j + 1)), rfl, rfl, Or.inr ⟨S, h1, h2, rfl, fun S' hv hx => ?_⟩⟩
          obtain ⟨p, a, c, e⟩ := hx
          by_cases e2 : p = j
          · subst e2; exact Nat.le_trans q (mS S' hv e)
          · exact h4 S' hv ⟨p, by omega, c, e⟩
        · rw [if_neg (show ¬ nI (C ||| S) ≤ nI (C ||| S2) by rw [leI (by omega) (by omega)]; exact q)]
          refine ⟨(nI (C ||| S2), nI (j + 1)), rfl, rfl, Or.inr ⟨S2, vS, tS, rfl, fun S' hv hx => ?_⟩⟩
          obtain ⟨p, a, c, e⟩ := hx
          by_cases e2 : p = j
          · subst e2; exact mS S' hv e
          · have := h4 S' hv ⟨p, by omega, c, e⟩
            omega
