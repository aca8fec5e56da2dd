theorem posts9 {f : Nat → Int32} {A : Nat → Nat → Int32} {nx : Nat → Nat} {T : Nat} (hT : T < 65536) (e0 : f 0 = nI T) (hn : ∀ p, p < 16 → A 1 p = nI (nx p) ∧ nx p < 65536) (htold : ∀ p q, p < 16 → (nx p).testBit q = true → T.testBit p = true ∧ T.testBit q = true) (hsym : ∀ p q, p < 16 → q < 16 → (nx p).testBit q = (nx q).testBit p) : ∃ S, S < 65536 ∧ f1_fewestPosts f A = some (nI S) ∧ sub16 S T ∧ dom nx T S ∧ ∀ S', S' < 65536 → dom nx T S' → popc S 16 < popc S' 16 ∨ (popc S 16 = popc S' 16 ∧ S ≤ S') := by
  unfold f1_fewestPosts
  refine loop_one (fun k (x : Int32 × Int32) => f1_fewestPosts_l4 f A k x.1 x.2) 17
    (fun j x => (x = (-1, nI j) ∧ j ≤ 16 ∧ ∀ m, m < j → ∀ S, ¬ VAL nx T m S) ∨ ∃ m S, j = m + 1 ∧ x = (nI S, nI j) ∧ (∀ m', m' < m → ∀ S, ¬ VAL nx T m' S) ∧ VAL nx T m S ∧ sub16 S T ∧ ∀ S', VAL nx T m S' → S ≤ S')
    (fun P => ∃ S, S < 65536 ∧ P = some (nI S) ∧ sub16 S T ∧ dom nx T S ∧ ∀ S', S' < 65536 → dom nx T S' → popc S 16 < popc S' 16 ∨ (popc S 16 = popc S' 16 ∧ S ≤ S')) (by decide) ?_ (-1, 0) (Or.inl ⟨rfl, by omega, fun m h => absurd h (by omega)⟩)
  rintro k j x hj hP
  have ea : ∀ k x i, f1_fewestPosts_l4 f A (k + 1) x i = f1_fewestPosts_b4 f A (f1_fewestPosts_l4 f A k) x i := fun _ _ _ => rfl
  simp only [ea]
  unfold f1_fewestPosts_b4
  rcases hP with ⟨rfl, hj16, hno⟩ | ⟨m, S, rfl, rfl, hno, hv, hs, hmin⟩
  · right
    dsimp only
    rw [if_neg (show ¬ (16 : Int32) < nI j by rw [show (16 : Int32) = nI 16 from rfl, ltI (by omega) (by omega)]; omega), if_pos rfl, e0]
    obtain ⟨r, r1, r2⟩ := posts_rec (f := f) hn htold hsym j 64 0 T hj16 (by omega) (by decide) hT (fun _ h => h)
    rw [show f1_leastPosts_rec 64 f A 0 (nI T) (nI j) = some r from r1, Option.bind_some, nI_s]
    refine ⟨by omega, (r, nI (j + 1)), rfl, ?_⟩
    rcases r2 with ⟨rfl, h⟩ | ⟨S, h1, h2, rfl, h4⟩
    · left
      have : j ≠ 16 := fun e => by
        subst e
        refine h T ⟨hT, ?_, fun u hu hb => ⟨u, hu, hb, Or.inl rfl⟩⟩
        exact popc_le T 16
      refine ⟨rfl, by omega, fun m hm => ?_⟩
      by_cases e : m = j
      · subst e; exact h
      · exact hno m (by omega)
    · right
      refine ⟨j, S, rfl, by rw [Nat.zero_or], hno, h1, h2, fun S' hv => ?_⟩
      have := h4 S' hv
      rw [Nat.zero_or, Nat.zero_or] at this
      exact this
  · left
    have fin : ∀ S', S' < 65536 → dom nx T S' → popc S 16 < popc S' 16 ∨ (popc S 16 = popc S' 16 ∧ S ≤ S') := by
      intro S' h1 h2
      by_cases q : popc S' 16 < m
      · exact absurd ⟨h1, Nat.le_refl _, h2⟩ (hno (popc S' 16) q S')
      · by_cases q2 : popc S 16 < popc S' 16
        · exact Or.inl q2
        · have := hv.2.1
          exact Or.inr ⟨by omega, hmin S' ⟨h1, by omega, h2⟩⟩
    refine ⟨S, hv.1, ?_, hs, hv.2.2, fin⟩
    dsimp only
    have hS := hv.1
    rw [if_neg (show ¬ nI S = -1 by rw [show (-1 : Int32) = -nI 1 from rfl, eq_neg (by omega) (by omega) (by omega)]; exact not_false), ite_self]
theorem watched_c {g : Nat → Int32} {B : Nat → Nat → Int32} {nx : Nat → Nat} {S : Nat} (hS : S < 65536) (hn : ∀ p, p < 16 → B 3 p = nI (nx p) ∧ nx p < 65536) : ∃ W, W < 65536 ∧ f10_watchedBy g B (nI S) = some (nI W) ∧ ∀ u, W.testBit u = true ↔ (S.testBit u = true ∨ ∃ p, p < 16 ∧ S.testBit p = true ∧ (nx p).testBit u = true) := by
  unfold f10_watchedBy
  refine loop_one (fun k (x : Int32 × Int32) => f10_watchedBy_l4 g B (nI S) k x.1 x.2) 16 (fun j x => ∃ W, x = (nI W, nI j) ∧ W < 65536 ∧ ∀ u, W.testBit u = true ↔ (S.testBit u = true ∨ ∃ p, p < j ∧ S.testBit p = true ∧ (nx p).testBit u = true)) (fun P => ∃ W, W < 65536 ∧ P = some (nI W) ∧ ∀ u, W.testBit u = true ↔ (S.testBit u = true ∨ ∃ p, p < 16 ∧ S.testBit p = true ∧ (nx p).testBit u = true)) (by decide) ?_ (nI S, 0) ⟨S, rfl, hS, fun u => ⟨Or.inl, fun h => by rcases h with h | ⟨p, h, _⟩; exact h; omega⟩⟩
  rintro k j x hj ⟨W, rfl, hW, hb⟩
  have ea : ∀ k x i, f10_watchedBy_l4 g B (nI S) (k + 1) x i = f10_watchedBy_b4 g B (nI S) (f10_watchedBy_l4 g B (nI S) k) x i := fun _ _ _ => rfl
  simp only [ea]
  unfold f10_watchedBy_b4
  by_cases h16 : 16 ≤ j
  · have : j = 16 := by omega
    subst this
    left
    rw [if_pos (by decide)]
    exact ⟨W, hW, rfl, hb⟩
  right
  have hj16 : j < 16 := by omega
  obtain ⟨n1, n2⟩ := hn j hj16
  rw [if_neg (ge16 hj16), has10 (by omega) (by omega), if_neg (nI_in hj16 (by decide)), gx_nI (by omega), n1, nI_s]
  refine ⟨hj16, ?_⟩
  by_cases q : S.testBit j = true
  · rw [if_pos q, if_neg n10, or_nI]
    refine ⟨(nI (W ||| nx j), nI (j + 1)), rfl, W ||| nx j, rfl, Nat.or_lt_two_pow (n := 16) hW n2, fun u => ?_⟩
    rw [Nat.testBit_or, Bool.or_eq_true, hb]
    constructor
    · rintro ((h | ⟨p, h1, h2, h3⟩) | h)
      · exact Or.inl h
      · exact Or.inr ⟨p, by omega, h2, h3⟩
      · exact Or.inr ⟨j, by omega, q, h⟩
    · rintro (h | ⟨p, h1, h2, h3⟩)
      · exact Or.inl (Or.inl h)
      · by_cases e : p = j
        · subst e; exact Or.inr h3
        · exact Or.inl (Or.inr ⟨p, by omega, h2, h3⟩)
  · rw [if_neg q, if_pos rfl]
    refine ⟨(nI W, nI (j + 1)), rfl, W, rfl, hW, fun u => ?_⟩
    rw [hb]
    constructor
    · rintro (h | ⟨p, h1, h2, h3⟩)
      · exact Or.inl h
      · exact Or.inr ⟨p, by omega, h2, h3⟩
    · rintro (h | ⟨p, h1, h2, h3⟩)
      · exact Or.inl h
      · by_cases e : p = j
        · subst e; exact absurd h2 q
        · exact Or.inr ⟨p, by omega, h2, h3⟩
theorem cutA_zero {U V : Nat} (hU : U < 65536) : (nI U &&& (nI V ^^^ -1) = 0) ↔ sub16 U V := by
  rw [andn_c hU]
  have lt : mset (fun i => U.testBit i && !V.testBit i) 16 < 65536 := mset_lt _ 16
  rw [show (0 : Int32) = nI 0 from rfl, eqI (by omega) (by omega)]
  constructor
  · intro h i hi
    by_cases q : V.testBit i = true
    · exact q
    · exfalso
      have hi16 : i < 16 := by
        by_cases hh : i < 16
        · exact hh
        · rw [hi_bit hU hh] at hi; exact absurd hi (by decide)
      have := (cutA_bit (U := U) (V := V) (i := i)).mpr ⟨hi16, hi, q⟩
      unfold cutA at this
      rw [h, Nat.zero_testBit] at this
      exact absurd this (by decide)
  · intro h
    apply Nat.eq_of_testBit_eq
    intro i
    rw [Nat.zero_testBit]
    refine Bool.eq_false_iff.mpr (fun hb => ?_)
    have := (cutA_bit (U := U) (V := V) (i := i)).mp hb
    exact this.2.2 (h i this.2.1)
theorem posts10 {g : Nat → Int32} {B : Nat → Nat → Int32} {nx : Nat → Nat} {T w : Nat} (hw : w ≤ 1) (hT : T < 65536) (e6 : g 6 = nI T) (hn : ∀ p, p < 16 → B 3 p = nI (nx p) ∧ nx p < 65536) : ∃ S, S < 65536 ∧ f10_posts_l18 g B (nI w) NF (nI T) 0 = some (if w = 0 then nI (popc S 16) else nI S) ∧ sub16 S T ∧ dom nx T S ∧ ∀ S', S' < 65536 → S' ≤ T → sub16 S' T → dom nx T S' → popc S 16 < popc S' 16 ∨ (popc S 16 = popc S' 16 ∧ S ≤ S') := by
  refine loop_one (fun k (x : Int32 × Int32) => f10_posts_l18 g B (nI w) k x.1 x.2) (T + 1)
    (fun j x => ∃ S, x = (nI S, nI j) ∧ S < 65536 ∧ sub16 S T ∧ dom nx T S ∧ ∀ S', S' < j → sub16 S' T → dom nx T S' → popc S 16 < popc S' 16 ∨ (popc S 16 = popc S' 16 ∧ S ≤ S'))
    (fun P => ∃ S, S < 65536 ∧ P = some (if w = 0 then nI (popc S 16) else nI S) ∧ sub16 S T ∧ dom nx T S ∧ ∀ S', S' < 65536 → S' ≤ T → sub16 S' T → dom nx T S' → popc S 16 < popc S' 16 ∨ (popc S 16 = popc S' 16 ∧ S ≤ S')) (by omega) ?_ (nI T, 0) ⟨T, rfl, hT, fun _ h => h, fun u hu hb => ⟨u, hu, hb, Or.inl rfl⟩, fun S' h => absurd h (by omega)⟩
  rintro k j x hj ⟨S, rfl, hS, hs, hd, hmin⟩
  have ea : ∀ k x i, f10_posts_l18 g B (nI w) (k + 1) x i = f10_posts_b18 g B (nI w) (f10_posts_l18 g B (nI w) k) x i := fun _ _ _ => rfl
  simp only [ea]
  generalize f10_posts_l18 g B (nI w) k = Kn
  unfold f10_posts_b18
  rw [e6, bits10 (show S < 2147483648 by omega)]
  by_cases h : ¬ j ≤ T
  · left
    rw [if_pos (show nI T < nI j by rw [ltI (by omega) (by omega)]; omega)]
    refine ⟨S, hS, ?_, hs, hd, fun S' _ h2 h3 h4 => hmin S' (by omega) h3 h4⟩
    by_cases c : w = 0
    · subst c; rw [if_pos (show nI 0 = (0 : Int32) from rfl), if_pos rfl]; rfl
    · rw [if_neg (show ¬ nI w = 0 by rw [show (0 : Int32) = nI 0 from rfl, eqI (by omega) (by omega)]; exact c), if_neg c]
  replace h : j ≤ T := Classical.not_not.mp h
  have hj65 : j < 65536 := by omega
  right
  refine ⟨by omega, ?_⟩
  rw [if_neg (show ¬ nI T < nI j by rw [ltI (by omega) (by omega)]; omega), bits10 (show j < 2147483648 by omega), nI_s]
  have cz := cutA_zero (U := j) (V := T) hj65
  have stay : (sub16 j T → dom nx T j → popc S 16 < popc j 16 ∨ (popc S 16 = popc j 16 ∧ S ≤ j)) → ∃ s' : Int32 × Int32, Kn (nI S) (nI (j + 1)) = Kn s'.1 s'.2 ∧ ∃ S, s' = (nI S, nI (j + 1)) ∧ S < 65536 ∧ sub16 S T ∧ dom nx T S ∧ ∀ S', S' < j + 1 → sub16 S' T → dom nx T S' → popc S 16 < popc S' 16 ∨ (popc S 16 = popc S' 16 ∧ S ≤ S') := by
    intro hh
    refine ⟨(nI S, nI (j + 1)), rfl, S, rfl, hS, hs, hd, fun S' h1 h2 h3 => ?_⟩
    by_cases e : S' = j
    · subst e; exact hh h2 h3
    · exact hmin S' (by omega) h2 h3
  by_cases hsub : ¬ sub16 j T
  · rw [if_neg (fun hh => hsub (cz.mp hh))]
    exact stay (fun h _ => absurd h hsub)
  replace hsub : sub16 j T := Classical.not_not.mp hsub
  rw [if_pos (cz.mpr hsub), Option.bind_some, Option.bind_some, Option.bind_some, Option.bind_some]
  have pj := popc_le j 16
  have pS := popc_le S 16
  by_cases c1 : popc S 16 < popc j 16
  · rw [if_pos (show nI (popc S 16) < nI (popc j 16) by rw [ltI (by omega) (by omega)]; exact c1)]
    exact stay (fun _ _ => Or.inl c1)
  rw [if_neg (show ¬ nI (popc S 16) < nI (popc j 16) by rw [ltI (by omega) (by omega)]; exact c1)]
  -- is it watched?
  obtain ⟨W, hW, hw1, hw2⟩ := watched_c (g := g) hj65 hn
  have dw : sub16 T W ↔ dom nx T j := by
    constructor
    · intro hh u hu hb
      rcases (hw2 u).mp (hh u hb) with h1 | ⟨p, h1, h2, h3⟩
      · exact ⟨u, hu, h1, Or.inl rfl⟩
      · exact ⟨p, h1, h2, Or.inr h3⟩
    · intro hh u hb
      have hu : u < 16 := by
        by_cases q : u < 16
        · exact q
        · rw [hi_bit hT q] at hb; exact absurd hb (by decide)
      obtain ⟨p, h1, h2, h3⟩ := hh u hu hb
      rcases h3 with h3 | h3
      · subst h3; exact (hw2 p).mpr (Or.inl h2)
      · exact (hw2 u).mpr (Or.inr ⟨p, h1, h2, h3⟩)
  have cw := cutA_zero (U := T) (V := W) hT
  have look : (popc j 16 < popc S 16 ∨ (popc j 16 = popc S 16 ∧ j ≤ S)) → ∃ s' : Int32 × Int32, f10_posts_b67 g B (nI w) Kn (nI S) (nI j) = Kn s'.1 s'.2 ∧ ∃ S, s' = (nI S, nI (j + 1)) ∧ S < 65536 ∧ sub16 S T ∧ dom nx T S ∧ ∀ S', S' < j + 1 → sub16 S' T → dom nx T S' → popc S 16 < popc S' 16 ∨ (popc S 16 = popc S' 16 ∧ S ≤ S') := by
    intro hlt
    unfold f10_posts_b67
    rw [hw1, Option.bind_some, e6, nI_s]
    by_cases q : dom nx T j
    · rw [if_pos (cw.mpr (dw.mpr q))]
      refine ⟨(nI j, nI (j + 1)), rfl, j, rfl, hj65, hsub, q, fun S' h1 h2 h3 => ?_⟩
      by_cases e : S' = j
      · subst e; exact Or.inr ⟨rfl, Nat.le_refl _⟩
      · have := hmin S' (by omega) h2 h3
        omega
    · rw [if_neg (fun hh => q (dw.mp (cw.mp hh)))]
      exact stay (fun _ h => absurd h q)
  by_cases c2 : popc j 16 = popc S 16
  · rw [if_pos (show nI (popc j 16) = nI (popc S 16) by rw [c2])]
    by_cases c3 : j ≤ S
    · rw [if_pos (show nI j ≤ nI S by rw [leI (by omega) (by omega)]; exact c3)]
      exact look (Or.inr ⟨c2, c3⟩)
    · rw [if_neg (show ¬ nI j ≤ nI S by rw [leI (by omega) (by omega)]; exact c3)]
      exact stay (fun _ _ => Or.inr ⟨c2.symm, by omega⟩)
  · rw [if_neg (show ¬ nI (popc j 16) = nI (popc S 16) by rw [eqI (by omega) (by omega)]; exact c2)]
    exact look (Or.inl (by omega))
theorem sub_le {S T : Nat} (h : sub16 S T) : S ≤ T := by
  have e : S ||| T = T := by
    apply Nat.eq_of_testBit_eq
    intro i
    rw [Nat.testBit_or]
    by_cases q : S.testBit i = true
    · rw [q, h i q]; rfl
    · rw [Bool.eq_false_iff.mpr q, Bool.false_or]
  rw [← e]
  exact Nat.left_le_or
theorem ok_posts : OK_posts INV := by
  rintro σf σA fW AW μf μA x1 hI
  have hI0 := hI
  obtain ⟨T, nx, ⟨b1, b2, b3, b4, b5, b6, b7⟩, -⟩ := hI
  unfold f9_posts f10_posts
  rw [in_eq]
  rcases within_c x1 (A := 0) (B := 1) (a := 0) (b := 1) rfl rfl (by decide) (by decide) with ⟨h, _⟩ | ⟨h, w, _, hw, rfl⟩
  · exact ⟨-1, -1, by rw [if_pos h], by rw [if_pos h], rfl, hI0⟩
  rw [h, if_neg n10, if_neg n10]
  obtain ⟨S, s1, s2, s3, s4, s5⟩ := posts9 (f := σf 2) (A := σA 2) b1 b2 (fun p hp => ⟨(b4 p hp).1, (b4 p hp).2.2⟩) b7 b5
  obtain ⟨S', t1, t2, t3, t4, t5⟩ := posts10 (g := μf) (B := μA) hw b1 b3 (fun p hp => ⟨(b4 p hp).2.1, (b4 p hp).2.2⟩)
  have e : S = S' := by
    have h1 := s5 S' t1 t4
    have h2 := t5 S s1 (sub_le s3) s3 s4
    omega
  subst e
  rw [s2, Option.bind_some, b3]
  by_cases c : w = 0
  · subst c
    rw [if_pos rfl] at t2
    rw [if_pos (show nI 0 = (0 : Int32) from rfl), bc_all s1]
    exact ⟨_, _, rfl, t2, rfl, hI0⟩
  · rw [if_neg c] at t2
    rw [if_neg (show ¬ nI w = 0 by rw [show (0 : Int32) = nI 0 from rfl, eqI (by omega) (by omega)]; exact c)]
    exact ⟨_, _, rfl, t2, rfl, hI0⟩
