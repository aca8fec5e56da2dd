/-- the edges that have been counted -/
def cnd (nx : Nat → Nat) (k j : Nat) (asg : Nat → Bool) (f ln : Nat → Nat) (p q : Nat) : Bool := asg p && asg q && (nx p).testBit q && (f p + 1 == f q) && (anyb (fun i => ln i == p) k || (p == ln k && decide (q < j)))
def RWS (nx : Nat → Nat) (s k j : Nat) (asg : Nat → Bool) (f ln : Nat → Nat) (R : Nat → Int32) : Prop := ∀ q, q < 16 → R q = (if q = s then 1 else 0) + isum (fun p => if cnd nx k j asg f ln p q then R p else 0) 16
set_option maxHeartbeats 200000 in
theorem cnd_j {nx : Nat → Nat} {k j : Nat} {asg : Nat → Bool} {f ln : Nat → Nat} {p q : Nat} (h : q ≠ j ∨ p ≠ ln k ∨ (nx p).testBit q = false ∨ f p + 1 ≠ f q) : cnd nx k (j + 1) asg f ln p q = cnd nx k j asg f ln p q := by
  unfold cnd
  rcases h with h | h | h | h
  · have : decide (q < j + 1) = decide (q < j) := by
      by_cases u : q < j
      · rw [decide_eq_true u, decide_eq_true (by omega)]
      · rw [decide_eq_false u, decide_eq_false (by omega)]
    rw [this]
  · rw [beq_eq_false_iff_ne.mpr h]; simp
  · rw [h]; simp
  · rw [beq_eq_false_iff_ne.mpr h]; simp
set_option maxHeartbeats 200000 in
theorem RWS.skip {nx : Nat → Nat} {s k j : Nat} {asg : Nat → Bool} {f ln : Nat → Nat} {R : Nat → Int32} (h : RWS nx s k j asg f ln R) (hn : (nx (ln k)).testBit j = false ∨ f (ln k) + 1 ≠ f j) : RWS nx s k (j + 1) asg f ln R := by
  intro q hq
  refine (h q hq).trans (congrArg (fun z => (if q = s then (1 : Int32) else 0) + z) (isum_congr (fun p hp => ?_)))
  rw [cnd_j]
  by_cases e : q = j
  · by_cases e2 : p = ln k
    · subst e e2
      rcases hn with hn | hn
      · exact Or.inr (Or.inr (Or.inl hn))
      · exact Or.inr (Or.inr (Or.inr hn))
    · exact Or.inr (Or.inl e2)
  · exact Or.inl e
set_option maxHeartbeats 200000 in
theorem RWS.next {nx : Nat → Nat} {s k : Nat} {asg : Nat → Bool} {f ln : Nat → Nat} {R : Nat → Int32} (h : RWS nx s k 16 asg f ln R) : RWS nx s (k + 1) 0 asg f ln R := by
  intro q hq
  refine (h q hq).trans (congrArg (fun z => (if q = s then (1 : Int32) else 0) + z) (isum_congr (fun p hp => ?_)))
  have : cnd nx (k + 1) 0 asg f ln p q = cnd nx k 16 asg f ln p q := by
    unfold cnd
    have e : anyb (fun i => ln i == p) (k + 1) = (anyb (fun i => ln i == p) k || ln k == p) := rfl
    rw [e, decide_eq_true hq, decide_eq_false (Nat.not_lt_zero q), Bool.and_true, Bool.and_false, Bool.or_false]
    have e2 : (ln k == p) = (p == ln k) := Bool.beq_comm
    rw [e2]
  rw [this]
set_option maxHeartbeats 200000 in
theorem BQ.not_done {nx : Nat → Nat} {s k j many : Nat} {asg : Nat → Bool} {f ln : Nat → Nat} (h : BQ nx s k j many asg f ln) (hk : k < many) {q : Nat} (hq : ∀ i, i ≤ k → ln i ≠ q) : (anyb (fun i => ln i == q) k || (q == ln k && decide (j < j))) = false := by
  rw [Bool.eq_false_iff]
  intro e
  rw [Bool.or_eq_true, anyb_iff, Bool.and_eq_true, beq_iff_eq] at e
  rcases e with ⟨i, hi, e⟩ | ⟨e, _⟩
  · rw [beq_iff_eq] at e
    exact hq i (by omega) e
  · exact hq k (by omega) e.symm
set_option maxHeartbeats 200000 in
theorem RWS.new {nx : Nat → Nat} {s k j many : Nat} {asg : Nat → Bool} {f ln : Nat → Nat} {R : Nat → Int32} (h : RWS nx s k j asg f ln R) (hB : BQ nx s k j many asg f ln) (hj : j < 16) (hk : k < many) (hn : asg j = false) : RWS nx s k j (fun q => if q = j then true else asg q) (fun q => if q = j then f (ln k) + 1 else f q) (fun i => if i = many then j else ln i) R := by
  obtain ⟨a1, a2, a3, a4, a5, a6, a7, a8, a9, a10, a11, a12⟩ := hB
  intro q hq
  refine (h q hq).trans (congrArg (fun z => (if q = s then (1 : Int32) else 0) + z) (isum_congr (fun p hp => ?_)))
  have nj : ∀ q, asg q = true → ¬ q = j := fun q hq e => by subst e; rw [hn] at hq; exact absurd hq (by decide)
  have lnm : ∀ i, i < many → (if i = many then j else ln i) = ln i := fun i hi => if_neg (by omega)
  have pr : (anyb (fun i => (if i = many then j else ln i) == p) k || (p == (if k = many then j else ln k) && decide (q < j))) = (anyb (fun i => ln i == p) k || (p == ln k && decide (q < j))) := by
    rw [lnm k hk]
    congr 1
    apply Bool.eq_iff_iff.mpr
    rw [anyb_iff, anyb_iff]
    constructor
    · rintro ⟨i, h1, h2⟩
      rw [lnm i (by omega)] at h2
      exact ⟨i, h1, h2⟩
    · rintro ⟨i, h1, h2⟩
      exact ⟨i, h1, by rw [lnm i (by omega)]; exact h2⟩
  have : cnd nx k j (fun q => if q = j then true else asg q) (fun q => if q = j then f (ln k) + 1 else f q) (fun i => if i = many then j else ln i) p q = cnd nx k j asg f ln p q := by
    unfold cnd
    rw [pr]
    by_cases e : p = j
    · subst e
      have pf : (anyb (fun i => ln i == p) k || (p == ln k && decide (q < p))) = false := by
        rw [Bool.eq_false_iff]
        intro e
        rw [Bool.or_eq_true, anyb_iff, Bool.and_eq_true, beq_iff_eq] at e
        rcases e with ⟨i, hi, e⟩ | ⟨e, _⟩
        · rw [beq_iff_eq] at e
          exact nj _ (a4 i (by omega)).2.1 e
        · exact nj _ (a4 k hk).2.1 e.symm
      rw [pf]; simp
    · simp only [if_neg e]
      by_cases e2 : q = j
      · subst e2
        rw [hn]
        have : ((nx p).testBit q && (anyb (fun i => ln i == p) k || (p == ln k && decide (q < q)))) = false := by
          rw [Bool.eq_false_iff]
          intro e
          rw [Bool.and_eq_true, Bool.or_eq_true, anyb_iff, Bool.and_eq_true, decide_eq_true_eq] at e
          obtain ⟨e0, e⟩ := e
          rcases e with ⟨i, hi, e⟩ | ⟨e, e3⟩
          · rw [beq_iff_eq] at e
            subst e
            exact nj _ (a11 i hi q hq e0).1 rfl
          · omega
        rcases Bool.and_eq_false_iff.mp this with t | t
        · rw [t]; simp
        · rw [t]; simp
      · simp only [if_neg e2]
  rw [this]
set_option maxHeartbeats 200000 in
theorem RWS.add {nx : Nat → Nat} {s k j many : Nat} {asg : Nat → Bool} {f ln : Nat → Nat} {R : Nat → Int32} (h : RWS nx s k j asg f ln R) (hB : BQ nx s k j many asg f ln) (hj : j < 16) (hk : k < many) (ha : (nx (ln k)).testBit j = true) (hs : asg j = true) (hf : f (ln k) + 1 = f j) : RWS nx s k (j + 1) asg f ln (upd R j (R j + R (ln k))) := by
  obtain ⟨a1, a2, a3, a4, a5, a6, a7, a8, a9, a10, a11, a12⟩ := hB
  obtain ⟨c1, c2, c3⟩ := a4 k hk
  have hne : ln k ≠ j := fun e => by rw [e] at hf; omega
  -- j itself has not been at the head
  have nd : ∀ q, cnd nx k (j + 1) asg f ln j q = false := fun q => by
    rw [Bool.eq_false_iff]
    intro e
    simp only [cnd, Bool.and_eq_true, Bool.or_eq_true, anyb_iff, beq_iff_eq, decide_eq_true_eq] at e
    rcases e.2 with ⟨i, hi, e⟩ | ⟨e, _⟩
    · have := a9 i k (by omega) hk
      rw [e] at this
      omega
    · exact hne e.symm
  intro q hq
  by_cases e : q = j
  · subst e
    rw [upd_s]
    generalize hX : R q + R (ln k) = X
    refine hX.symm.trans ((congrArg (fun z => z + R (ln k)) (h q hq)).trans ?_)
    refine (Int32.add_assoc _ _ _).trans ?_
    have hsum : ∀ N, N ≤ 16 → ln k < N → isum (fun p => if cnd nx k (q + 1) asg f ln p q then upd R q X p else 0) N = isum (fun p => if cnd nx k q asg f ln p q then R p else 0) N + R (ln k) := by
      intro N hN16 hN
      have g1 : ∀ p, p < N → p ≠ ln k → (if cnd nx k (q + 1) asg f ln p q then upd R q X p else 0) = if cnd nx k q asg f ln p q then R p else 0 := by
        intro p hp hpk
        rw [cnd_j (Or.inr (Or.inl hpk))]
        by_cases e2 : p = q
        · subst e2
          have := nd p
          rw [cnd_j (Or.inr (Or.inl hpk))] at this
          rw [this]; rfl
        · rw [upd_n e2]
      have cf : cnd nx k q asg f ln (ln k) q = false := by
        rw [Bool.eq_false_iff]
        intro e
        simp only [cnd, Bool.and_eq_true, Bool.or_eq_true, anyb_iff, beq_iff_eq, decide_eq_true_eq] at e
        rcases e.2 with ⟨i, hi, e⟩ | ⟨_, e⟩
        · have := a6 i k (by omega) hk e
          omega
        · omega
      have g2 : (if cnd nx k q asg f ln (ln k) q then R (ln k) else 0) = 0 := by
        rw [cf]; rfl
      have ct : cnd nx k (q + 1) asg f ln (ln k) q = true := by
        unfold cnd
        rw [c2, hs, ha, hf]
        simp
      have g3 : (if cnd nx k (q + 1) asg f ln (ln k) q then upd R q X (ln k) else 0) = R (ln k) := by
        rw [ct, if_pos rfl, upd_n hne]
      have key := isum_add (g := fun p => if cnd nx k (q + 1) asg f ln p q then upd R q X p else 0) (h := fun p => if cnd nx k q asg f ln p q then R p else 0) (n := N) (a := ln k) hN g1 g2
      rw [key]
      exact congrArg (fun z => isum (fun p => if cnd nx k q asg f ln p q then R p else 0) N + z) g3
    exact congrArg (fun z => (if q = s then (1 : Int32) else 0) + z) (hsum 16 (Nat.le_refl _) c1).symm
  · rw [upd_n e]
    refine (h q hq).trans (congrArg (fun z => (if q = s then (1 : Int32) else 0) + z) (isum_congr (fun p hp => ?_)))
    rw [cnd_j (Or.inl e)]
    by_cases e2 : p = j
    · subst e2
      have := nd q
      rw [cnd_j (Or.inl e)] at this
      rw [this]; rfl
    · rw [upd_n e2]
