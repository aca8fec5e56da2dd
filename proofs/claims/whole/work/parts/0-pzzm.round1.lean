/-! ROUND: the walks from p; counting -/
def rch (nx : Nat → Nat) (p : Nat) : Nat → Nat → Nat → Prop
  | 0, S, q => S = 2 ^ p ∧ q = p
  | t + 1, S, q => rch nx p t S q ∨ ∃ S0 q0, rch nx p t S0 q0 ∧ q < 16 ∧ (nx q0).testBit q = true ∧ S = S0 ||| 2 ^ q
theorem rch_mono {nx : Nat → Nat} {p t u S q : Nat} (h : t ≤ u) (hr : rch nx p t S q) : rch nx p u S q := by
  induction u with
  | zero =>
    have : t = 0 := by omega
    subst this; exact hr
  | succ u ih =>
    by_cases e : t = u + 1
    · subst e; exact hr
    · exact Or.inl (ih (by omega))
theorem rch_ok {nx : Nat → Nat} {p : Nat} (hp : p < 16) : ∀ t S q, rch nx p t S q → S < 65536 ∧ q < 16 ∧ S.testBit q = true ∧ S.testBit p = true ∧ popc S 16 ≤ t + 1 := by
  intro t
  induction t with
  | zero =>
    rintro S q ⟨rfl, rfl⟩
    refine ⟨pow16 hp, hp, Nat.testBit_two_pow_self, Nat.testBit_two_pow_self, ?_⟩
    have := popc_or (S := 0) hp
    rw [Nat.zero_or] at this
    have e0 : popc 0 16 = 0 := by decide
    omega
  | succ t ih =>
    rintro S q (h | ⟨S0, q0, h1, h2, h3, rfl⟩)
    · obtain ⟨a, b, c, d, e⟩ := ih S q h
      exact ⟨a, b, c, d, by omega⟩
    · obtain ⟨a, b, c, d, e⟩ := ih S0 q0 h1
      refine ⟨Nat.or_lt_two_pow (n := 16) a (pow16 h2), h2, ?_, ?_, ?_⟩
      · rw [or_bit']; simp
      · rw [or_bit', d]; rfl
      · have := popc_or (S := S0) h2
        omega
theorem or_in {S q : Nat} (h : S.testBit q = true) : S ||| 2 ^ q = S := by
  apply Nat.eq_of_testBit_eq
  intro i
  rw [or_bit']
  by_cases e : i = q
  · subst e; rw [h]; rfl
  · simp [e]
theorem home_iff {nx : Nat → Nat} {p k S : Nat} (hp : p < 16) (hsym : ∀ p q, p < 16 → q < 16 → (nx p).testBit q = (nx q).testBit p) : (∃ q, q < 16 ∧ rch nx p k S q ∧ (q = p ∨ (nx p).testBit q = true)) ↔ rch nx p (k + 1) S p := by
  constructor
  · rintro ⟨q, hq, h1, rfl | h2⟩
    · exact Or.inl h1
    · refine Or.inr ⟨S, q, h1, hp, ?_, ?_⟩
      · rw [hsym q p hq hp]; exact h2
      · exact (or_in (rch_ok hp k S q h1).2.2.2.1).symm
  · rintro (h | ⟨S0, q0, h1, h2, h3, rfl⟩)
    · exact ⟨p, hp, h, Or.inl rfl⟩
    · have ok := rch_ok hp k S0 q0 h1
      rw [or_in ok.2.2.2.1]
      refine ⟨q0, ok.2.1, h1, Or.inr ?_⟩
      rw [hsym p q0 hp ok.2.1]; exact h3
theorem pigeon : ∀ (N M : Nat) (f : Nat → Nat), (∀ i, i < M → f i < N) → (∀ i j, i < M → j < M → f i = f j → i = j) → M ≤ N := by
  intro N
  induction N with
  | zero =>
    intro M f h _
    by_cases e : M = 0
    · omega
    · have := h 0 (by omega)
      omega
  | succ N ih =>
    intro M f h hi
    by_cases q : ∃ i, i < M ∧ f i = N
    · obtain ⟨i0, h0, e0⟩ := q
      have h1 : ∀ i, i < M - 1 → (if i = i0 then f (M - 1) else f i) < N := by
        intro i hM
        by_cases c : i = i0
        · rw [if_pos c]
          have h1 := h (M - 1) (by omega)
          have : f (M - 1) ≠ N := fun e => by
            have := hi (M - 1) i0 (by omega) h0 (by rw [e, e0])
            omega
          omega
        · rw [if_neg c]
          have h1 := h i (by omega)
          have : f i ≠ N := fun e => c (hi i i0 (by omega) h0 (by rw [e, e0]))
          omega
      have h2 : ∀ i j, i < M - 1 → j < M - 1 → (if i = i0 then f (M - 1) else f i) = (if j = i0 then f (M - 1) else f j) → i = j := by
        intro i j a b e'
        by_cases c : i = i0
        · by_cases c2 : j = i0
          · omega
          · rw [if_pos c, if_neg c2] at e'
            have := hi _ _ (by omega) (by omega) e'
            omega
        · by_cases c2 : j = i0
          · rw [if_neg c, if_pos c2] at e'
            have := hi _ _ (by omega) (by omega) e'
            omega
          · rw [if_neg c, if_neg c2] at e'
            exact hi _ _ (by omega) (by omega) e'
      have := ih (M - 1) (fun i => if i = i0 then f (M - 1) else f i) h1 h2
      omega
    · have := ih M f (fun i hM => by
        have h1 := h i hM
        have : f i ≠ N := fun e => q ⟨i, hM, e⟩
        omega) hi
      omega
theorem cnt_compl {g h : Nat → Bool} {p : Nat} (gp : g p = true) (hp : h p = true) (e : ∀ q, q ≠ p → q < 16 → g q = !h q) : ∀ n, n ≤ 16 → cnt g n + cnt h n = n + (if p < n then 1 else 0) := by
  intro n
  induction n with
  | zero => intro _; rfl
  | succ n ih =>
    intro hn
    have := ih (by omega)
    show cnt g n + (if g n then 1 else 0) + (cnt h n + (if h n then 1 else 0)) = _
    by_cases c : n = p
    · subst c
      rw [gp, hp, if_pos rfl, if_pos (by omega)]
      rw [if_neg (by omega)] at this
      omega
    · have e2 := e n c (by omega)
      have : (if p < n + 1 then 1 else 0) = (if p < n then 1 else 0) := by
        by_cases u : p < n
        · rw [if_pos u, if_pos (by omega)]
        · rw [if_neg u, if_neg (by omega)]
      rw [this]
      cases hh : h n
      · rw [hh] at e2
        rw [e2]
        simp only [Bool.not_false, if_true, Bool.false_eq_true, if_false]
        omega
      · rw [hh] at e2
        rw [e2]
        simp only [Bool.not_true, if_true, Bool.false_eq_true, if_false]
        omega
theorem eq16 {a b : Nat} (ha : a < 65536) (hb : b < 65536) (e : ∀ q, q < 16 → a.testBit q = b.testBit q) : a = b := by
  apply Nat.eq_of_testBit_eq
  intro i
  by_cases hi : i < 16
  · exact e i hi
  · rw [hi_bit ha hi, hi_bit hb hi]
theorem mset_inj {g h : Nat → Bool} {n : Nat} (e : mset g n = mset h n) : ∀ q, q < n → g q = h q := by
  intro q hq
  have := congrArg (fun x => Nat.testBit x q) e
  simp only [mset_bit, decide_eq_true hq, Bool.true_and] at this
  exact this
/-- no more than 16384 sets of at most 8 with p in them -/
theorem vis_count {p n : Nat} {vs : Nat → Nat} (hp : p < 16) (hv : ∀ i, i < n → vs i < 65536 ∧ (vs i).testBit p = true ∧ popc (vs i) 16 ≤ 8) (hi : ∀ i j, i < n → j < n → vs i = vs j → i = j) : n ≤ 16384 := by
  have key := pigeon 65536 (4 * n) (fun k => mset (fun q => if q = p then decide (k % 4 < 2) else ((vs (k / 4)).testBit q ^^ decide (k % 2 = 1))) 16) (fun k _ => mset_lt _ 16) (fun k l hk hl e => ?_)
  · omega
  have b := mset_inj e
  obtain ⟨v1, v2, v3⟩ := hv (k / 4) (by omega)
  obtain ⟨w1, w2, w3⟩ := hv (l / 4) (by omega)
  have bp := b p hp
  rw [if_pos rfl, if_pos rfl, decide_eq_decide] at bp
  have bq : ∀ q, q ≠ p → q < 16 → ((vs (k / 4)).testBit q ^^ decide (k % 2 = 1)) = ((vs (l / 4)).testBit q ^^ decide (l % 2 = 1)) := by
    intro q hq hq16
    have := b q hq16
    rw [if_neg hq, if_neg hq] at this
    exact this
  by_cases c : k % 2 = l % 2
  · have : vs (k / 4) = vs (l / 4) := by
      refine eq16 v1 w1 (fun q hq => ?_)
      by_cases e : q = p
      · subst e; rw [v2, w2]
      · have := bq q e hq
        rw [c] at this
        exact Bool.xor_right_inj.mp (by rw [Bool.xor_comm, this, Bool.xor_comm])
    have := hi _ _ (by omega) (by omega) this
    omega
  · exfalso
    have := cnt_compl (g := fun q => (vs (k / 4)).testBit q) (h := fun q => (vs (l / 4)).testBit q) v2 w2 (fun q h1 h2 => by
      have := bq q h1 h2
      show (vs (k / 4)).testBit q = !(vs (l / 4)).testBit q
      by_cases u : k % 2 = 1
      · rw [decide_eq_true u, decide_eq_false (by omega)] at this
        revert this
        cases (vs (k / 4)).testBit q <;> cases (vs (l / 4)).testBit q <;> decide
      · rw [decide_eq_false u, decide_eq_true (by omega)] at this
        revert this
        cases (vs (k / 4)).testBit q <;> cases (vs (l / 4)).testBit q <;> decide) 16 (Nat.le_refl _)
    rw [← popc_cnt, ← popc_cnt, if_pos hp] at this
    omega
/-- no more than 524288 twos of a set with p in it and a place -/
theorem code_count {p n : Nat} {ln : Nat → Nat} (hp : p < 16) (hv : ∀ i, i < n → ln i / 16 < 65536 ∧ (ln i / 16).testBit p = true) (hi : ∀ i j, i < n → j < n → ln i = ln j → i = j) : n ≤ 524288 := by
  have key := pigeon 1048576 (2 * n) (fun k => 16 * mset (fun q => if q = p then decide (k % 2 = 0) else (ln (k / 2) / 16).testBit q) 16 + ln (k / 2) % 16) (fun k _ => ?_) (fun k l hk hl e => ?_)
  · omega
  · have : mset (fun q => if q = p then decide (k % 2 = 0) else (ln (k / 2) / 16).testBit q) 16 < 65536 := mset_lt _ 16
    show 16 * mset (fun q => if q = p then decide (k % 2 = 0) else (ln (k / 2) / 16).testBit q) 16 + ln (k / 2) % 16 < 1048576
    omega
  have e' : 16 * mset (fun q => if q = p then decide (k % 2 = 0) else (ln (k / 2) / 16).testBit q) 16 + ln (k / 2) % 16 = 16 * mset (fun q => if q = p then decide (l % 2 = 0) else (ln (l / 2) / 16).testBit q) 16 + ln (l / 2) % 16 := e
  have b := mset_inj (g := fun q => if q = p then decide (k % 2 = 0) else (ln (k / 2) / 16).testBit q) (h := fun q => if q = p then decide (l % 2 = 0) else (ln (l / 2) / 16).testBit q) (n := 16) (by omega)
  obtain ⟨v1, v2⟩ := hv (k / 2) (by omega)
  obtain ⟨w1, w2⟩ := hv (l / 2) (by omega)
  have bp := b p hp
  rw [if_pos rfl, if_pos rfl, decide_eq_decide] at bp
  have : ln (k / 2) / 16 = ln (l / 2) / 16 := by
    refine eq16 v1 w1 (fun q hq => ?_)
    by_cases e : q = p
    · subst e; rw [v2, w2]
    · have := b q hq
      rw [if_neg e, if_neg e] at this
      exact this
  have := hi (k / 2) (l / 2) (by omega) (by omega) (by omega)
  omega
/-! sums -/
def tsm (v : Nat → Nat) (S : Nat) : Nat → Nat
  | 0 => 0
  | n + 1 => tsm v S n + (if S.testBit n then v n else 0)
theorem tsm_le {v : Nat → Nat} {S : Nat} (hv : ∀ p, p < 16 → v p ≤ 99) : ∀ n, n ≤ 16 → tsm v S n ≤ 99 * n := by
  intro n
  induction n with
  | zero => intro _; exact Nat.le_refl _
  | succ n ih =>
    intro hn
    have h1 := ih (by omega)
    have h2 := hv n (by omega)
    show tsm v S n + (if S.testBit n then v n else 0) ≤ _
    split <;> omega
theorem sum9 {X : Nat → Int32} {v : Nat → Nat} {S : Nat} (hX : ∀ p, p < 16 → X p = nI (v p)) (hS : S < 65536) : f9_sumOf 16 X (nI S) = some (nI (tsm v S 16)) := by
  unfold f9_sumOf
  refine loop_one (fun n (s : Int32 × Int32) => f9_sumOf_l4 16 X (nI S) n s.1 s.2) 16 (fun j s => s = (nI (tsm v S j), nI j)) (fun a => a = some (nI (tsm v S 16))) (by decide) ?_ (0, 0) rfl
  rintro n j s hj rfl
  have ea : ∀ n x i, f9_sumOf_l4 16 X (nI S) (n + 1) x i = f9_sumOf_b4 16 X (nI S) (f9_sumOf_l4 16 X (nI S) n) x i := fun _ _ _ => rfl
  simp only [ea]
  unfold f9_sumOf_b4
  by_cases h : 16 ≤ j
  · left
    have : j = 16 := by omega
    subst this
    rw [if_pos (by decide)]
  right
  have hj16 : j < 16 := by omega
  rw [if_neg (show ¬ nI 16 ≤ nI j from ge16 hj16), has9 (by omega) (by omega), if_neg (nI_in hj16 (by decide)), gx_nI (by omega), hX j hj16, nI_s]
  refine ⟨hj16, ?_⟩
  by_cases q : S.testBit j = true
  · rw [if_pos q, if_neg n10, addI]
    refine ⟨(nI (tsm v S j + v j), nI (j + 1)), rfl, ?_⟩
    rw [show tsm v S (j + 1) = tsm v S j + v j from by show tsm v S j + (if S.testBit j then v j else 0) = _; rw [if_pos q]]
  · rw [if_neg q, if_pos rfl]
    refine ⟨(nI (tsm v S j), nI (j + 1)), rfl, ?_⟩
    rw [show tsm v S (j + 1) = tsm v S j from by show tsm v S j + (if S.testBit j then v j else 0) = _; rw [if_neg q, Nat.add_zero]]
theorem sum10 {g : Nat → Int32} {B : Nat → Nat → Int32} {v : Nat → Nat} {S : Nat} (hX : ∀ p, p < 16 → B 0 p = nI (v p)) (hS : S < 65536) : f10_temptationOf g B (nI S) = some (nI (tsm v S 16)) := by
  unfold f10_temptationOf
  refine loop_one (fun n (s : Int32 × Int32) => f10_temptationOf_l4 g B (nI S) n s.1 s.2) 16 (fun j s => s = (nI (tsm v S j), nI j)) (fun a => a = some (nI (tsm v S 16))) (by decide) ?_ (0, 0) rfl
  rintro n j s hj rfl
  have ea : ∀ n x i, f10_temptationOf_l4 g B (nI S) (n + 1) x i = f10_temptationOf_b4 g B (nI S) (f10_temptationOf_l4 g B (nI S) n) x i := fun _ _ _ => rfl
  simp only [ea]
  unfold f10_temptationOf_b4
  by_cases h : 16 ≤ j
  · left
    have : j = 16 := by omega
    subst this
    rw [if_pos (by decide)]
  right
  have hj16 : j < 16 := by omega
  rw [if_neg (ge16 hj16), has10 (by omega) (by omega), show (0 : Int32) + nI j = nI j from Int32.zero_add _, if_neg (nI_in (show j < 76 by omega) (by decide)), gx_nI (by omega), hX j hj16, nI_s]
  refine ⟨hj16, ?_⟩
  by_cases q : S.testBit j = true
  · rw [if_pos q, if_neg n10, addI]
    refine ⟨(nI (tsm v S j + v j), nI (j + 1)), rfl, ?_⟩
    rw [show tsm v S (j + 1) = tsm v S j + v j from by show tsm v S j + (if S.testBit j then v j else 0) = _; rw [if_pos q]]
  · rw [if_neg q, if_pos rfl]
    refine ⟨(nI (tsm v S j), nI (j + 1)), rfl, ?_⟩
    rw [show tsm v S (j + 1) = tsm v S j from by show tsm v S j + (if S.testBit j then v j else 0) = _; rw [if_neg q, Nat.add_zero]]
/-- S is better than b -/
def BTT (v : Nat → Nat) (S b : Nat) : Prop := tsm v b 16 < tsm v S 16 ∨ (tsm v S 16 = tsm v b 16 ∧ S < b)
theorem better_c {g : Nat → Int32} {B : Nat → Nat → Int32} {v : Nat → Nat} {S b : Nat} (hX : ∀ p, p < 16 → B 0 p = nI (v p)) (hv : ∀ p, p < 16 → v p ≤ 99) (hS : S < 65536) (hb : b < 65536) : (BTT v S b ∧ f10_isBetter g B (nI S) (nI b) = some 1) ∨ (¬ BTT v S b ∧ f10_isBetter g B (nI S) (nI b) = some 0) := by
  unfold f10_isBetter
  rw [sum10 hX hS, sum10 hX hb, Option.bind_some, Option.bind_some]
  have l1 := tsm_le (S := S) hv 16 (Nat.le_refl _)
  have l2 := tsm_le (S := b) hv 16 (Nat.le_refl _)
  by_cases c1 : tsm v b 16 < tsm v S 16
  · left
    rw [if_pos (by rw [ltI (by omega) (by omega)]; exact c1)]
    exact ⟨Or.inl c1, rfl⟩
  rw [if_neg (by rw [ltI (by omega) (by omega)]; exact c1)]
  by_cases c2 : tsm v S 16 = tsm v b 16
  · rw [if_pos (by rw [c2])]
    by_cases c3 : b ≤ S
    · right
      rw [if_pos (by rw [leI (by omega) (by omega)]; exact c3)]
      exact ⟨fun h => by rcases h with h | h <;> omega, rfl⟩
    · left
      rw [if_neg (by rw [leI (by omega) (by omega)]; exact c3)]
      exact ⟨Or.inr ⟨c2, by omega⟩, rfl⟩
  · right
    rw [if_neg (by rw [eqI (by omega) (by omega)]; exact c2)]
    exact ⟨fun h => by rcases h with h | h <;> omega, rfl⟩
theorem BTT_total {v : Nat → Nat} {S b : Nat} (h1 : ¬ BTT v S b) (h2 : ¬ BTT v b S) : S = b := by
  unfold BTT at h1 h2
  omega
