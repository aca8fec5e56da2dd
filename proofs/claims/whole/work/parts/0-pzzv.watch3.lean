/-! the least row by place after place, as the reference looks for it -/
def PRI (n w : Nat) (ad : Nat → Nat → Prop) (c : Nat → Nat) : Prop := (∀ i, i < n → c i < w) ∧ ∀ i j, i < n → j < n → ad i j → c i ≠ c j
/-- one more than the highest below k -/
def hs (c : Nat → Nat) : Nat → Nat
  | 0 => 0
  | k + 1 => if hs c k ≤ c k then c k + 1 else hs c k
theorem hs_lt {c : Nat → Nat} : ∀ k i, i < k → c i < hs c k := by
  intro k
  induction k with
  | zero => intro i hi; omega
  | succ k ih =>
    intro i hi
    show c i < (if hs c k ≤ c k then c k + 1 else hs c k)
    by_cases e : i = k
    · subst e
      split <;> omega
    · have := ih i (by omega)
      split <;> omega
theorem hs_congr {c g : Nat → Nat} : ∀ k, (∀ i, i < k → g i = c i) → hs g k = hs c k := by
  intro k
  induction k with
  | zero => intro _; rfl
  | succ k ih =>
    intro h
    show (if hs g k ≤ g k then g k + 1 else hs g k) = (if hs c k ≤ c k then c k + 1 else hs c k)
    rw [ih (fun i hi => h i (by omega)), h k (by omega)]
def RGR (c : Nat → Nat) (k : Nat) : Prop := ∀ i, i < k → c i ≤ hs c i
theorem swp_id {c : Nat → Nat} {a b i : Nat} (h1 : c i ≠ a) (h2 : c i ≠ b) : swp c a b i = c i := by
  unfold swp
  rw [if_neg h1, if_neg h2]
theorem rg_ext {n w : Nat} {ad : Nat → Nat → Prop} : ∀ m j c, m + j = n → PRI n w ad c → RGR c j → ∃ g, PRI n w ad g ∧ RGR g n ∧ ∀ i, i < j → g i = c i := by
  intro m
  induction m with
  | zero =>
    intro j c hj hc hr
    have : j = n := by omega
    subst this
    exact ⟨c, hc, hr, fun _ _ => rfl⟩
  | succ m ih =>
    intro j c hj hc hr
    by_cases h : c j ≤ hs c j
    · obtain ⟨g, g1, g2, g3⟩ := ih (j + 1) c (by omega) hc (fun i hi => by
        by_cases e : i = j
        · subst e; exact h
        · exact hr i (by omega))
      exact ⟨g, g1, g2, fun i hi => g3 i (by omega)⟩
    · have cw := hc.1 j (by omega)
      have old : ∀ i, i < j → swp c (hs c j) (c j) i = c i := fun i hi => by
        have := hs_lt (c := c) j i hi
        exact swp_id (by omega) (by omega)
      have hj' : swp c (hs c j) (c j) j = hs c j := swp_b rfl
      obtain ⟨g, g1, g2, g3⟩ := ih (j + 1) (swp c (hs c j) (c j)) (by omega) ⟨fun i hi => swp_lt (by omega) cw (hc.1 i hi), fun i i' hi hi' ha e => hc.2 i i' hi hi' ha (swp_inj e)⟩ (fun i hi => by
        by_cases e : i = j
        · subst e
          rw [hj', hs_congr i old]
          exact Nat.le_refl _
        · rw [old i (by omega), hs_congr i (fun i' hi' => old i' (by omega))]
          exact hr i (by omega))
      exact ⟨g, g1, g2, fun i hi => by rw [g3 i (by omega), old i hi]⟩
/-- none of those that grow as they should is below c with u at k -/
def EXC (n w : Nat) (ad : Nat → Nat → Prop) (c : Nat → Nat) (k u : Nat) : Prop := ∀ g, PRI n w ad g → RGR g n → (∀ i, i < k → (∀ i', i' < i → g i' = c i') → c i ≤ g i) ∧ ((∀ i, i < k → g i = c i) → u ≤ g k)
def LSTI (n w : Nat) (ad : Nat → Nat → Prop) (c : Nat → Nat) : Prop := ∀ i, i < n → ∀ g, PRI n w ad g → (∀ i', i' < i → g i' = c i') → c i ≤ g i
theorem EXC.none {n w u : Nat} {ad : Nat → Nat → Prop} {c : Nat → Nat} (hn : 0 < n) (h : EXC n w ad c 0 u) (hu : w ≤ u ∨ hs c 0 < u) : ¬ ∃ g, PRI n w ad g := by
  rintro ⟨g0, hg0⟩
  obtain ⟨g, g1, g2, -⟩ := rg_ext n 0 g0 (by omega) hg0 (fun i hi => absurd hi (by omega))
  have h1 := (h g g1 g2).2 (fun i hi => absurd hi (by omega))
  have h2 := g1.1 0 hn
  have h3 := g2 0 hn
  have e0 : hs g 0 = 0 := rfl
  have e1 : hs c 0 = 0 := rfl
  omega
theorem EXC.back {n w u k : Nat} {ad : Nat → Nat → Prop} {c : Nat → Nat} (hk : k + 1 < n) (h : EXC n w ad c (k + 1) u) (hu : w ≤ u ∨ hs c (k + 1) < u) : EXC n w ad c k (c k + 1) := by
  intro g g1 g2
  obtain ⟨h1, h2⟩ := h g g1 g2
  refine ⟨fun i hi => h1 i (by omega), fun ha => ?_⟩
  have h3 := h1 k (by omega) ha
  by_cases e : g k = c k
  · exfalso
    have all : ∀ i, i < k + 1 → g i = c i := fun i hi => by
      by_cases e2 : i = k
      · subst e2; exact e
      · exact ha i (by omega)
    have h4 := h2 all
    have h5 := g1.1 (k + 1) hk
    have h6 := g2 (k + 1) hk
    rw [hs_congr (k + 1) all] at h6
    omega
  · omega
theorem EXC.clash {n w u k : Nat} {ad : Nat → Nat → Prop} {c : Nat → Nat} (hk : k < n) (h : EXC n w ad c k u) (hc : ∃ i, i < k ∧ c i = u ∧ ad k i) : EXC n w ad c k (u + 1) := by
  intro g g1 g2
  obtain ⟨h1, h2⟩ := h g g1 g2
  refine ⟨h1, fun ha => ?_⟩
  have h3 := h2 ha
  by_cases e : g k = u
  · exfalso
    obtain ⟨i, hi, h4, h5⟩ := hc
    refine g1.2 k i hk (by omega) h5 ?_
    rw [e, ha i hi, h4]
  · omega
theorem EXC.fwd {n w u k : Nat} {ad : Nat → Nat → Prop} {c : Nat → Nat} (h : EXC n w ad c k u) : EXC n w ad (pt c k u) (k + 1) 0 := by
  intro g g1 g2
  obtain ⟨h1, h2⟩ := h g g1 g2
  refine ⟨fun i hi ha => ?_, fun _ => Nat.zero_le _⟩
  have ha' : ∀ i', i' < i → g i' = c i' := fun i' hi' => by
    have := ha i' hi'
    rw [pt_n (by omega)] at this
    exact this
  by_cases e : i = k
  · subst e
    rw [pt_s]
    exact h2 ha'
  · rw [pt_n e]
    exact h1 i (by omega) ha'
theorem EXC.least {n w u : Nat} {ad : Nat → Nat → Prop} {c : Nat → Nat} (h : EXC n w ad c n u) (hr : RGR c n) : LSTI n w ad c := by
  intro i hi c' hc' ha
  by_cases lt : c' i < c i
  · exfalso
    have rg : RGR c' (i + 1) := fun j hj => by
      by_cases e : j = i
      · subst e
        rw [hs_congr j ha]
        have := hr j hi
        omega
      · rw [hs_congr j (fun i' hi' => ha i' (by omega)), ha j (by omega)]
        exact hr j (by omega)
    obtain ⟨g, g1, g2, g3⟩ := rg_ext (n - (i + 1)) (i + 1) c' (by omega) hc' rg
    have := (h g g1 g2).1 i hi (fun i' hi' => by rw [g3 i' (by omega), ha i' hi'])
    rw [g3 i (by omega)] at this
    omega
  · omega
/-! how often the reference turns -/
def DW (k : Nat) : Nat := 20 ^ (16 - k)
theorem DW_s {k : Nat} (hk : k < 16) : DW k = 20 * DW (k + 1) := by
  unfold DW
  rw [show 16 - k = (16 - (k + 1)) + 1 by omega, Nat.pow_succ, Nat.mul_comm]
theorem DW_pos {k : Nat} : 1 ≤ DW k := Nat.pow_pos (by decide)
theorem DW_le {k : Nat} : DW k ≤ 655360000000000000000 := by
  unfold DW
  exact Nat.le_trans (Nat.pow_le_pow_right (by decide) (show 16 - k ≤ 16 by omega)) (by decide)
def ph (c : Nat → Nat) : Nat → Nat
  | 0 => 0
  | k + 1 => ph c k + c k * DW k
theorem ph_le {c : Nat → Nat} : ∀ k, (∀ i, i < k → c i ≤ 16) → ph c k ≤ k * 10485760000000000000000 := by
  intro k
  induction k with
  | zero => intro _; exact Nat.zero_le _
  | succ k ih =>
    intro h
    have h1 := ih (fun i hi => h i (by omega))
    have h2 : c k * DW k ≤ 16 * 655360000000000000000 := Nat.mul_le_mul (h k (by omega)) DW_le
    show ph c k + c k * DW k ≤ _
    rw [Nat.succ_mul]
    omega
theorem ph_congr {c g : Nat → Nat} : ∀ k, (∀ i, i < k → g i = c i) → ph g k = ph c k := by
  intro k
  induction k with
  | zero => intro _; rfl
  | succ k ih =>
    intro h
    show ph g k + g k * DW k = ph c k + c k * DW k
    rw [ih (fun i hi => h i (by omega)), h k (by omega)]
def FI (c : Nat → Nat) (k u : Nat) : Nat := ph c k + u * DW k + k
theorem FI_lt {c : Nat → Nat} {k u : Nat} (hk : k ≤ 16) (hc : ∀ i, i < k → c i ≤ 16) (hu : u ≤ 16) : FI c k u < 2 ^ 100 := by
  have h1 := ph_le k hc
  have h2 : u * DW k ≤ 16 * 655360000000000000000 := Nat.mul_le_mul hu DW_le
  have h3 : k * 10485760000000000000000 ≤ 16 * 10485760000000000000000 := Nat.mul_le_mul_right _ hk
  have h4 : (2 : Nat) ^ 100 = 1267650600228229401496703205376 := by decide
  unfold FI
  omega
theorem FI_back {c : Nat → Nat} {k u : Nat} (hk : k < 16) (hu : u ≤ 16) : FI c (k + 1) u + 1 ≤ FI c k (c k + 1) := by
  have h1 := DW_s hk
  have h2 := DW_pos (k := k + 1)
  have h3 : u * DW (k + 1) ≤ 16 * DW (k + 1) := Nat.mul_le_mul_right _ hu
  have h4 : (c k + 1) * DW k = c k * DW k + DW k := Nat.succ_mul _ _
  show ph c k + c k * DW k + u * DW (k + 1) + (k + 1) + 1 ≤ ph c k + (c k + 1) * DW k + k
  omega
theorem FI_stay {c : Nat → Nat} {k u : Nat} : FI c k u + 1 ≤ FI c k (u + 1) := by
  have h2 := DW_pos (k := k)
  have h4 : (u + 1) * DW k = u * DW k + DW k := Nat.succ_mul _ _
  show ph c k + u * DW k + k + 1 ≤ ph c k + (u + 1) * DW k + k
  omega
theorem FI_fwd {c : Nat → Nat} {k u : Nat} : FI c k u + 1 ≤ FI (pt c k u) (k + 1) 0 := by
  have h1 : ph (pt c k u) k = ph c k := ph_congr k (fun i hi => pt_n (by omega))
  show ph c k + u * DW k + k + 1 ≤ ph (pt c k u) k + pt c k u k * DW k + 0 * DW (k + 1) + (k + 1)
  rw [h1, pt_s, Nat.zero_mul]
  omega
