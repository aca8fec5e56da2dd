/-! loops that count up -/
theorem nI_s (j : Nat) : nI j + 1 = nI (j + 1) := nI_1 j
/-- a loop from j up to N: 'fin' behind it, 'stp' once a turn -/
theorem loop_up {σ R : Type} (L : Nat → σ → Int32 → Option R) (N : Nat) (P : Nat → σ → Prop) (stp : Nat → σ → σ) (fin : σ → Option R)
    (h0 : ∀ n s, P N s → L (n + 1) s (nI N) = fin s) (h1 : ∀ n s j, j < N → P j s → P (j + 1) (stp j s) ∧ L (n + 1) s (nI j) = L n (stp j s) (nI (j + 1))) :
    ∀ (m j : Nat) (s : σ) (n : Nat), j + m = N → m < n → P j s → ∃ t, P N t ∧ L n s (nI j) = fin t := by
  intro m
  induction m with
  | zero =>
    intro j s n hj hn hP
    obtain ⟨n', rfl⟩ : ∃ k, n = k + 1 := ⟨n - 1, by omega⟩
    have e : j = N := by omega
    subst e
    exact ⟨s, hP, h0 n' s hP⟩
  | succ m ih =>
    intro j s n hj hn hP
    obtain ⟨n', rfl⟩ : ∃ k, n = k + 1 := ⟨n - 1, by omega⟩
    obtain ⟨hP', e⟩ := h1 n' s j (by omega) hP
    obtain ⟨t, ht, et⟩ := ih (j + 1) (stp j s) n' (by omega) (by omega) hP'
    exact ⟨t, ht, e.trans et⟩
/-- from 0 on, with the fuel that the functions have -/
theorem loop_0N {σ R : Type} (L : Nat → σ → Int32 → Option R) (N : Nat) (P : Nat → σ → Prop) (stp : Nat → σ → σ) (fin : σ → Option R) (hN : N < 2 ^ 200)
    (h0 : ∀ n s, P N s → L (n + 1) s (nI N) = fin s) (h1 : ∀ n s j, j < N → P j s → P (j + 1) (stp j s) ∧ L (n + 1) s (nI j) = L n (stp j s) (nI (j + 1))) (s : σ) (hP : P 0 s) : ∃ t, P N t ∧ L NF s (nI 0) = fin t :=
  loop_up L N P stp fin h0 h1 N 0 s NF (by omega) (Nat.lt_of_lt_of_le hN NF_ge) hP
/-- sets of the first n numbers with a property -/
def mset (g : Nat → Bool) : Nat → Nat
  | 0 => 0
  | n + 1 => if g n then mset g n ||| 2 ^ n else mset g n
theorem mset_bit (g : Nat → Bool) (n i : Nat) : (mset g n).testBit i = (decide (i < n) && g i) := by
  induction n with
  | zero => simp [mset]
  | succ n ih =>
    unfold mset
    split
    · next h =>
      rw [Nat.testBit_or, ih, Nat.testBit_two_pow]
      by_cases e : i = n
      · subst e; simp [h]
      · have e' : (n = i) = False := eq_false (fun q => e q.symm)
        simp only [e', decide_false, Bool.or_false]
        by_cases q : i < n
        · simp [q, Nat.lt_succ_of_lt q]
        · have : ¬ i < n + 1 := by omega
          simp [q, this]
    · next h =>
      rw [ih]
      by_cases e : i = n
      · subst e; simp [h]
      · by_cases q : i < n
        · simp [q, Nat.lt_succ_of_lt q]
        · have : ¬ i < n + 1 := by omega
          simp [q, this]
theorem mset_lt (g : Nat → Bool) (n : Nat) : mset g n < 2 ^ n := by
  induction n with
  | zero => simp [mset]
  | succ n ih =>
    unfold mset
    have h2 : 2 ^ n < 2 ^ (n + 1) := Nat.pow_lt_pow_right (by decide) (by omega)
    split
    · exact Nat.or_lt_two_pow (by omega) h2
    · omega
theorem mset_congr {g h : Nat → Bool} {n : Nat} (e : ∀ i, i < n → g i = h i) : mset g n = mset h n := by
  induction n with
  | zero => rfl
  | succ n ih =>
    unfold mset
    rw [ih (fun i hi => e i (by omega)), e n (by omega)]
theorem mset_self {T n : Nat} (h : T < 2 ^ n) : mset (fun i => T.testBit i) n = T := by
  apply Nat.eq_of_testBit_eq
  intro i
  rw [mset_bit]
  by_cases q : i < n
  · simp [q]
  · rw [Nat.testBit_lt_two_pow (Nat.lt_of_lt_of_le h (Nat.pow_le_pow_right (by decide) (by omega)))]
    simp
