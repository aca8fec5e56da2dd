/-! the reference's queue of walks -/
def NC (c q : Nat) : Nat := 16 * (c / 16 ||| 2 ^ q) + q
theorem NC_div {c q : Nat} (hq : q < 16) : NC c q / 16 = c / 16 ||| 2 ^ q ∧ NC c q % 16 = q := by
  unfold NC
  omega
def RQ (nx : Nat → Nat) (p k h j many : Nat) (d ln : Nat → Nat) : Prop :=
  h ≤ many ∧ 1 ≤ many ∧ (∀ i, i < many → 0 < d (ln i) ∧ d (ln i) ≤ k + 1 ∧ rch nx p (d (ln i) - 1) (ln i / 16) (ln i % 16)) ∧ (∀ c, d c ≠ 0 → ∃ i, i < many ∧ ln i = c) ∧ (∀ i i', i < many → i' < many → ln i = ln i' → i = i') ∧ d (16 * 2 ^ p + p) = 1 ∧ (∀ i i', i ≤ i' → i' < many → d (ln i) ≤ d (ln i')) ∧ (∀ i, i < many → h < many → d (ln i) ≤ d (ln h) + 1) ∧ (∀ i, i < h → d (ln i) ≤ k → ∀ q, q < 16 → (nx (ln i % 16)).testBit q = true → 0 < d (NC (ln i) q) ∧ d (NC (ln i) q) ≤ d (ln i) + 1) ∧ (h < many → d (ln h) ≤ k → ∀ q, q < j → (nx (ln h % 16)).testBit q = true → 0 < d (NC (ln h) q) ∧ d (NC (ln h) q) ≤ d (ln h) + 1)
theorem RQ.code {nx : Nat → Nat} {p k h j many : Nat} {d ln : Nat → Nat} (hp : p < 16) (H : RQ nx p k h j many d ln) : ∀ i, i < many → ln i / 16 < 65536 ∧ (ln i / 16).testBit p = true := by
  intro i hi
  have := rch_ok hp _ _ _ (H.2.2.1 i hi).2.2
  exact ⟨this.1, this.2.2.2.1⟩
theorem RQ.le {nx : Nat → Nat} {p k h j many : Nat} {d ln : Nat → Nat} (hp : p < 16) (H : RQ nx p k h j many d ln) : many ≤ 524288 := code_count hp (H.code hp) H.2.2.2.2.1
theorem RQ.skip {nx : Nat → Nat} {p k h j many : Nat} {d ln : Nat → Nat} (H : RQ nx p k h j many d ln) (hh : h < many) (hn : (nx (ln h % 16)).testBit j = true → d (NC (ln h) j) ≠ 0) : RQ nx p k h (j + 1) many d ln := by
  obtain ⟨a1, a2, a3, a4, a5, a6, a7, a8, a9, a10⟩ := H
  refine ⟨a1, a2, a3, a4, a5, a6, a7, a8, a9, fun _ hk q hq ha => ?_⟩
  by_cases e : q = j
  · subst e
    have ne := hn ha
    obtain ⟨i, hi, e⟩ := a4 _ ne
    have := a8 i hi hh
    rw [e] at this
    exact ⟨by omega, this⟩
  · exact a10 hh hk q (by omega) ha
theorem RQ.next {nx : Nat → Nat} {p k h j many : Nat} {d ln : Nat → Nat} (H : RQ nx p k h j many d ln) (hh : h < many) (hj : j = 16 ∨ ¬ d (ln h) ≤ k) : RQ nx p k (h + 1) 0 many d ln := by
  obtain ⟨a1, a2, a3, a4, a5, a6, a7, a8, a9, a10⟩ := H
  refine ⟨hh, a2, a3, a4, a5, a6, a7, fun i hi h1 => ?_, fun i hi hk q hq ha => ?_, fun _ _ q hq => absurd hq (by omega)⟩
  · have h2 := a8 i hi hh
    have h3 := a7 h (h + 1) (by omega) h1
    omega
  · by_cases e : i = h
    · subst e
      rcases hj with rfl | hj
      · exact a10 hh hk q hq ha
      · exact absurd hk hj
    · exact a9 i (by omega) hk q hq ha
theorem RQ.new {nx : Nat → Nat} {p k h j many : Nat} {d ln : Nat → Nat} (hp : p < 16) (H : RQ nx p k h j many d ln) (hh : h < many) (hj : j < 16) (hk : d (ln h) ≤ k) (ha : (nx (ln h % 16)).testBit j = true) (h0 : d (NC (ln h) j) = 0) : many < 524288 ∧ RQ nx p k h j (many + 1) (pt d (NC (ln h) j) (d (ln h) + 1)) (pt ln many (NC (ln h) j)) := by
  obtain ⟨a1, a2, a3, a4, a5, a6, a7, a8, a9, a10⟩ := H
  have nc := NC_div (c := ln h) hj
  generalize NC (ln h) j = c at h0 nc ⊢
  -- the old ones stay
  have ne : ∀ i, i < many → ln i ≠ c := fun i hi e => by
    have := (a3 i hi).1
    rw [e] at this; omega
  have pl : ∀ i, i < many → pt ln many c i = ln i := fun i hi => pt_n (by omega)
  have pd : ∀ x, d x ≠ 0 → pt d c (d (ln h) + 1) x = d x := fun x hx => pt_n (fun e => by subst e; exact hx h0)
  have pdl : ∀ i, i < many → pt d c (d (ln h) + 1) (ln i) = d (ln i) := fun i hi => pt_n (ne i hi)
  have b3 : ∀ i, i < many + 1 → 0 < pt d c (d (ln h) + 1) (pt ln many c i) ∧ pt d c (d (ln h) + 1) (pt ln many c i) ≤ k + 1 ∧ rch nx p (pt d c (d (ln h) + 1) (pt ln many c i) - 1) (pt ln many c i / 16) (pt ln many c i % 16) := by
    intro i hi
    by_cases e : i = many
    · subst e
      rw [pt_s, pt_s, nc.1, nc.2]
      obtain ⟨c1, c2, c3⟩ := a3 h hh
      refine ⟨by omega, by omega, ?_⟩
      rw [show d (ln h) + 1 - 1 = (d (ln h) - 1) + 1 by omega]
      exact Or.inr ⟨_, _, c3, hj, ha, rfl⟩
    · rw [pl i (by omega), pdl i (by omega)]
      exact a3 i (by omega)
  have b5 : ∀ i i', i < many + 1 → i' < many + 1 → pt ln many c i = pt ln many c i' → i = i' := by
    intro i i' hi hi' e
    by_cases c1 : i = many
    · by_cases c2 : i' = many
      · omega
      · subst c1; rw [pt_s, pl i' (by omega)] at e; exact absurd e.symm (ne i' (by omega))
    · by_cases c2 : i' = many
      · subst c2; rw [pt_s, pl i (by omega)] at e; exact absurd e (ne i (by omega))
      · rw [pl i (by omega), pl i' (by omega)] at e
        exact a5 i i' (by omega) (by omega) e
  have cap := code_count hp (fun i hi => by
    have := rch_ok hp _ _ _ (b3 i hi).2.2
    exact ⟨this.1, this.2.2.2.1⟩) b5
  refine ⟨by omega, by omega, by omega, b3, fun x hx => ?_, b5, ?_, fun i i' hii hi' => ?_, fun i hi _ => ?_, fun i hi hk q hq hb => ?_, fun _ _ q hq hb => ?_⟩
  · by_cases e : x = c
    · subst e; exact ⟨many, by omega, pt_s⟩
    · rw [pt_n e] at hx
      obtain ⟨i, hi, e⟩ := a4 x hx
      exact ⟨i, by omega, by rw [pl i hi, e]⟩
  · rw [pd _ (by rw [a6]; decide), a6]
  · by_cases c2 : i' = many
    · subst c2
      rw [pt_s, pt_s]
      by_cases c1 : i = i'
      · subst c1; rw [pt_s, pt_s]; exact Nat.le_refl _
      · rw [pl i (by omega), pdl i (by omega)]
        exact a8 i (by omega) hh
    · rw [pl i' (by omega), pdl i' (by omega), pl i (by omega), pdl i (by omega)]
      exact a7 i i' hii (by omega)
  · rw [pl h hh, pdl h hh]
    by_cases c1 : i = many
    · subst c1; rw [pt_s, pt_s]; exact Nat.le_refl _
    · rw [pl i (by omega), pdl i (by omega)]
      exact a8 i (by omega) hh
  · rw [pl i (by omega)] at hk hb ⊢
    rw [pdl i (by omega)] at hk ⊢
    have := a9 i hi hk q hq hb
    rw [pd _ (by omega)]
    exact this
  · rw [pl h hh] at hb ⊢
    rw [pdl h hh]
    have := a10 hh hk q hq hb
    rw [pd _ (by omega)]
    exact this
/-- when the queue is through, all walks of up to k steps are in it -/
theorem RQ.done {nx : Nat → Nat} {p k j many : Nat} {d ln : Nat → Nat} (hp : p < 16) (H : RQ nx p k many j many d ln) (S : Nat) : (∃ i, i < many ∧ ln i / 16 = S ∧ ln i % 16 = p) ↔ rch nx p k S p := by
  obtain ⟨a1, a2, a3, a4, a5, a6, a7, a8, a9, a10⟩ := H
  constructor
  · rintro ⟨i, hi, rfl, e⟩
    obtain ⟨c1, c2, c3⟩ := a3 i hi
    rw [e] at c3
    exact rch_mono (by omega) c3
  · intro hr
    have all : ∀ t, t ≤ k → ∀ S q, rch nx p t S q → 0 < d (16 * S + q) ∧ d (16 * S + q) ≤ t + 1 := by
      intro t
      induction t with
      | zero =>
        rintro _ S q ⟨rfl, rfl⟩
        rw [a6]; omega
      | succ t ih =>
        rintro ht S q (h | ⟨S0, q0, h1, h2, h3, rfl⟩)
        · have := ih (by omega) S q h
          omega
        · have h4 := ih (by omega) S0 q0 h1
          have hq0 := (rch_ok hp _ _ _ h1).2.1
          obtain ⟨i, hi, e⟩ := a4 (16 * S0 + q0) (by omega)
          have := a9 i hi (by rw [e]; omega) q h2 (by rw [e, show (16 * S0 + q0) % 16 = q0 by omega]; exact h3)
          rw [e] at this
          unfold NC at this
          rw [show (16 * S0 + q0) / 16 = S0 by omega] at this
          omega
    have := all k (Nat.le_refl _) S p hr
    obtain ⟨i, hi, e⟩ := a4 (16 * S + p) (by omega)
    exact ⟨i, hi, by rw [e]; omega, by rw [e]; omega⟩
theorem RQ.start {nx : Nat → Nat} {p k : Nat} (hp : p < 16) : RQ nx p k 0 0 1 (fun c => if c = 16 * 2 ^ p + p then 1 else 0) (fun _ => 16 * 2 ^ p + p) := by
  refine ⟨by omega, by omega, fun i hi => ?_, fun c hc => ?_, fun i i' hi hi' _ => by omega, if_pos rfl, fun _ _ _ _ => Nat.le_refl _, fun i hi _ => Nat.le_succ _, fun i hi => absurd hi (by omega), fun _ _ q hq => absurd hq (by omega)⟩
  · show 0 < (if 16 * 2 ^ p + p = 16 * 2 ^ p + p then 1 else 0) ∧ (if 16 * 2 ^ p + p = 16 * 2 ^ p + p then 1 else 0) ≤ k + 1 ∧ rch nx p ((if 16 * 2 ^ p + p = 16 * 2 ^ p + p then 1 else 0) - 1) _ _
    rw [if_pos rfl]
    exact ⟨by omega, by omega, show (16 * 2 ^ p + p) / 16 = 2 ^ p by omega, show (16 * 2 ^ p + p) % 16 = p by omega⟩
  · by_cases e : c = 16 * 2 ^ p + p
    · exact ⟨0, by omega, e.symm⟩
    · exact absurd (if_neg e) hc
