/-! the reference's steps: a queue -/
def isum (g : Nat → Int32) : Nat → Int32
  | 0 => 0
  | n + 1 => isum g n + g n
theorem isum_congr {g h : Nat → Int32} {n : Nat} (e : ∀ i, i < n → g i = h i) : isum g n = isum h n := by
  induction n with
  | zero => rfl
  | succ n ih =>
    show isum g n + g n = isum h n + h n
    rw [ih (fun i hi => e i (by omega)), e n (by omega)]
theorem isum_zero {g : Nat → Int32} {n : Nat} (e : ∀ i, i < n → g i = 0) : isum g n = 0 := by
  induction n with
  | zero => rfl
  | succ n ih =>
    show isum g n + g n = 0
    rw [ih (fun i hi => e i (by omega)), e n (by omega)]
    rfl
theorem isum_add {g h : Nat → Int32} {n a : Nat} (ha : a < n) (e : ∀ i, i < n → i ≠ a → g i = h i) (h0 : h a = 0) : isum g n = isum h n + g a := by
  induction n with
  | zero => omega
  | succ n ih =>
    show isum g n + g n = isum h n + h n + g a
    by_cases q : a = n
    · subst q
      rw [isum_congr (fun i hi => e i (by omega) (by omega)), h0, Int32.add_zero]
    · rw [ih (by omega) (fun i hi => e i (by omega)), e n (by omega) (fun h => q h.symm), Int32.add_assoc, Int32.add_assoc, Int32.add_comm (g a)]
theorem cnt_full {g : Nat → Bool} {n q : Nat} (hq : q < n) (h : g q = false) : cnt g n < n := by
  induction n with
  | zero => omega
  | succ n ih =>
    show cnt g n + (if g n then 1 else 0) < n + 1
    by_cases e : q = n
    · subst e
      rw [h]
      have := cnt_le g q
      simp only [Bool.false_eq_true, if_false]
      omega
    · have := ih (by omega)
      split <;> omega
theorem cnt_set {g h : Nat → Bool} {n q : Nat} (hq : q < n) (h0 : g q = false) (h1 : h q = true) (e : ∀ i, i < n → i ≠ q → h i = g i) : cnt h n = cnt g n + 1 := by
  induction n with
  | zero => omega
  | succ n ih =>
    show cnt h n + (if h n then 1 else 0) = cnt g n + (if g n then 1 else 0) + 1
    by_cases u : q = n
    · subst u
      rw [cnt_congr (fun i hi => e i (by omega) (by omega)), h0, h1]
      simp
    · rw [ih (by omega) (fun i hi => e i (by omega)), e n (by omega) (fun h => u h.symm)]
      omega
/-- the queue: k its head, j the neighbour that is looked at -/
def BQ (nx : Nat → Nat) (s k j many : Nat) (asg : Nat → Bool) (f ln : Nat → Nat) : Prop :=
  1 ≤ many ∧ k ≤ many ∧ many = cnt asg 16 ∧ (∀ i, i < many → ln i < 16 ∧ asg (ln i) = true ∧ f (ln i) ≤ i) ∧ (∀ q, q < 16 → asg q = true → ∃ i, i < many ∧ ln i = q) ∧ (∀ i i', i < many → i' < many → ln i = ln i' → i = i') ∧ (asg s = true ∧ f s = 0) ∧ (∀ q, q < 16 → asg q = true → q ≠ s → ∃ p, p < 16 ∧ asg p = true ∧ (nx p).testBit q = true ∧ f p + 1 = f q) ∧ (∀ i i', i ≤ i' → i' < many → f (ln i) ≤ f (ln i')) ∧ (∀ i, i < many → k < many → f (ln i) ≤ f (ln k) + 1) ∧ (∀ i, i < k → ∀ q, q < 16 → (nx (ln i)).testBit q = true → asg q = true ∧ f q ≤ f (ln i) + 1) ∧ (k < many → ∀ q, q < j → (nx (ln k)).testBit q = true → asg q = true ∧ f q ≤ f (ln k) + 1)
theorem BQ.le {nx : Nat → Nat} {s k j many : Nat} {asg : Nat → Bool} {f ln : Nat → Nat} (h : BQ nx s k j many asg f ln) : many ≤ 16 := by
  rw [h.2.2.1]; exact cnt_le _ _
theorem BQ.skip {nx : Nat → Nat} {s k j many : Nat} {asg : Nat → Bool} {f ln : Nat → Nat} (h : BQ nx s k j many asg f ln) (hj : j < 16) (hk : k < many) (hn : (nx (ln k)).testBit j = true → asg j = true) : BQ nx s k (j + 1) many asg f ln := by
  obtain ⟨a1, a2, a3, a4, a5, a6, a7, a8, a9, a10, a11, a12⟩ := h
  refine ⟨a1, a2, a3, a4, a5, a6, a7, a8, a9, a10, a11, fun _ q hq ha => ?_⟩
  by_cases e : q = j
  · subst e
    have := hn ha
    obtain ⟨i, hi, e⟩ := a5 q hj this
    refine ⟨this, ?_⟩
    rw [← e]
    exact a10 i hi hk
  · exact a12 hk q (by omega) ha
theorem BQ.next {nx : Nat → Nat} {s k many : Nat} {asg : Nat → Bool} {f ln : Nat → Nat} (h : BQ nx s k 16 many asg f ln) (hk : k < many) : BQ nx s (k + 1) 0 many asg f ln := by
  obtain ⟨a1, a2, a3, a4, a5, a6, a7, a8, a9, a10, a11, a12⟩ := h
  refine ⟨a1, hk, a3, a4, a5, a6, a7, a8, a9, fun i hi hk1 => ?_, fun i hi q hq ha => ?_, fun _ q hq => absurd hq (by omega)⟩
  · have h1 := a10 i hi hk
    have h2 := a9 k (k + 1) (by omega) hk1
    omega
  · by_cases e : i = k
    · subst e; exact a12 hk q hq ha
    · exact a11 i (by omega) q hq ha
theorem BQ.new {nx : Nat → Nat} {s k j many : Nat} {asg : Nat → Bool} {f ln : Nat → Nat} (h : BQ nx s k j many asg f ln) (hj : j < 16) (hk : k < many) (ha : (nx (ln k)).testBit j = true) (hn : asg j = false) : many < 16 ∧ BQ nx s k j (many + 1) (fun q => if q = j then true else asg q) (fun q => if q = j then f (ln k) + 1 else f q) (fun i => if i = many then j else ln i) := by
  obtain ⟨a1, a2, a3, a4, a5, a6, a7, a8, a9, a10, a11, a12⟩ := h
  have hlt : many < 16 := by rw [a3]; exact cnt_full hj hn
  have nj : ∀ q, asg q = true → ¬ q = j := fun q hq e => by subst e; rw [hn] at hq; exact absurd hq (by decide)
  have lnm : ∀ i, i < many → (if i = many then j else ln i) = ln i := fun i hi => if_neg (by omega)
  have flm : ∀ i, i < many → (if ln i = j then f (ln k) + 1 else f (ln i)) = f (ln i) := fun i hi => if_neg (nj _ (a4 i hi).2.1)
  refine ⟨hlt, by omega, by omega, ?_, fun i hi => ?_, fun q hq hs => ?_, fun i i' hi hi' e => ?_, ?_, fun q hq hs hqs => ?_, fun i i' hii hi' => ?_, fun i hi hkm => ?_, fun i hi q hq hadj => ?_, fun _ q hq hadj => ?_⟩
  · rw [a3]
    exact (cnt_set (q := j) hj hn (if_pos rfl) (fun i hi hne => if_neg hne)).symm
  · show (if i = many then j else ln i) < 16 ∧ (if (if i = many then j else ln i) = j then true else asg (if i = many then j else ln i)) = true ∧ (if (if i = many then j else ln i) = j then f (ln k) + 1 else f (if i = many then j else ln i)) ≤ i
    by_cases e : i = many
    · rw [if_pos e, if_pos rfl, if_pos rfl]
      have := (a4 k hk).2.2
      exact ⟨hj, rfl, by omega⟩
    · obtain ⟨c1, c2, c3⟩ := a4 i (by omega)
      rw [if_neg e, if_neg (nj _ c2), if_neg (nj _ c2)]
      exact ⟨c1, c2, c3⟩
  · by_cases e : q = j
    · exact ⟨many, by omega, by show (if many = many then j else ln many) = q; rw [if_pos rfl, e]⟩
    · have hs' : asg q = true := by
        have hs2 : (if q = j then true else asg q) = true := hs
        rw [if_neg e] at hs2; exact hs2
      obtain ⟨i, hi, e2⟩ := a5 q hq hs'
      exact ⟨i, by omega, by show (if i = many then j else ln i) = q; rw [lnm i hi, e2]⟩
  · have e' : (if i = many then j else ln i) = (if i' = many then j else ln i') := e
    by_cases c1 : i = many
    · by_cases c2 : i' = many
      · omega
      · rw [if_pos c1, if_neg c2] at e'
        exact absurd e'.symm (nj _ (a4 i' (by omega)).2.1)
    · by_cases c2 : i' = many
      · rw [if_neg c1, if_pos c2] at e'
        exact absurd e' (nj _ (a4 i (by omega)).2.1)
      · rw [if_neg c1, if_neg c2] at e'
        exact a6 i i' (by omega) (by omega) e'
  · show (if s = j then true else asg s) = true ∧ (if s = j then f (ln k) + 1 else f s) = 0
    rw [if_neg (nj _ a7.1), if_neg (nj _ a7.1)]
    exact a7
  · show ∃ p, p < 16 ∧ (if p = j then true else asg p) = true ∧ (nx p).testBit q = true ∧ (if p = j then f (ln k) + 1 else f p) + 1 = (if q = j then f (ln k) + 1 else f q)
    by_cases e : q = j
    · subst e
      obtain ⟨c1, c2, c3⟩ := a4 k hk
      refine ⟨ln k, c1, ?_, ha, ?_⟩
      · rw [if_neg (nj _ c2)]; exact c2
      · rw [if_neg (nj _ c2), if_pos rfl]
    · have hs2 : (if q = j then true else asg q) = true := hs
      rw [if_neg e] at hs2
      obtain ⟨p, p1, p2, p3, p4⟩ := a8 q hq hs2 hqs
      refine ⟨p, p1, ?_, p3, ?_⟩
      · rw [if_neg (nj _ p2)]; exact p2
      · rw [if_neg (nj _ p2), if_neg e]; exact p4
  · show (if (if i = many then j else ln i) = j then f (ln k) + 1 else f (if i = many then j else ln i)) ≤ (if (if i' = many then j else ln i') = j then f (ln k) + 1 else f (if i' = many then j else ln i'))
    by_cases c2 : i' = many
    · rw [if_pos c2, if_pos rfl]
      by_cases c1 : i = many
      · rw [if_pos c1, if_pos rfl]; exact Nat.le_refl _
      · rw [if_neg c1, flm i (by omega)]
        exact a10 i (by omega) hk
    · rw [if_neg c2, flm i' (by omega), lnm i (by omega), flm i (by omega)]
      exact a9 i i' hii (by omega)
  · show (if (if i = many then j else ln i) = j then f (ln k) + 1 else f (if i = many then j else ln i)) ≤ (if (if k = many then j else ln k) = j then f (ln k) + 1 else f (if k = many then j else ln k)) + 1
    rw [lnm k hk, flm k hk]
    by_cases c1 : i = many
    · rw [if_pos c1, if_pos rfl]; exact Nat.le_refl _
    · rw [if_neg c1, flm i (by omega)]
      exact a10 i (by omega) hk
  · show (if q = j then true else asg q) = true ∧ (if q = j then f (ln k) + 1 else f q) ≤ (if (if i = many then j else ln i) = j then f (ln k) + 1 else f (if i = many then j else ln i)) + 1
    have hadj' : (nx (if i = many then j else ln i)).testBit q = true := hadj
    rw [lnm i (by omega)] at hadj'
    rw [lnm i (by omega), flm i (by omega)]
    obtain ⟨c1, c2⟩ := a11 i hi q hq hadj'
    rw [if_neg (nj _ c1), if_neg (nj _ c1)]
    exact ⟨c1, c2⟩
  · show (if q = j then true else asg q) = true ∧ (if q = j then f (ln k) + 1 else f q) ≤ (if (if k = many then j else ln k) = j then f (ln k) + 1 else f (if k = many then j else ln k)) + 1
    have hadj' : (nx (if k = many then j else ln k)).testBit q = true := hadj
    rw [lnm k hk] at hadj'
    rw [lnm k hk, flm k hk]
    obtain ⟨c1, c2⟩ := a12 hk q hq hadj'
    rw [if_neg (nj _ c1), if_neg (nj _ c1)]
    exact ⟨c1, c2⟩
/-- what stands when the queue is through -/
theorem BQ.done {nx : Nat → Nat} {s many : Nat} {asg : Nat → Bool} {f ln : Nat → Nat} (h : BQ nx s many 0 many asg f ln) : ∀ q, q < 16 → (asg q = true ↔ DD nx s q < 16) ∧ (asg q = true → f q = DD nx s q) ∧ ∀ k, wkb nx s k q = true → asg q = true := by
  have hm := h.le
  obtain ⟨a1, a2, a3, a4, a5, a6, a7, a8, a9, a10, a11, a12⟩ := h
  have up : ∀ n q, q < 16 → asg q = true → f q = n → wkb nx s n q = true := by
    intro n
    induction n with
    | zero =>
      intro q hq hs hf
      by_cases e : q = s
      · subst e; exact wkb_self
      · obtain ⟨p, p1, p2, p3, p4⟩ := a8 q hq hs e
        omega
    | succ n ih =>
      intro q hq hs hf
      by_cases e : q = s
      · subst e; exact wkb_self
      · obtain ⟨p, p1, p2, p3, p4⟩ := a8 q hq hs e
        exact wkb_s.mpr (Or.inr ⟨p, p1, ih p p1 p2 (by omega), p3⟩)
  have down : ∀ k q, q < 16 → wkb nx s k q = true → asg q = true ∧ f q ≤ k := by
    intro k
    induction k with
    | zero =>
      intro q hq hw
      have := wkb_0.mp hw
      subst this
      exact ⟨a7.1, by rw [a7.2]; exact Nat.le_refl _⟩
    | succ k ih =>
      intro q hq hw
      rcases wkb_s.mp hw with hw | ⟨r, hr, h1, h2⟩
      · obtain ⟨h1, h2⟩ := ih q hq hw
        exact ⟨h1, by omega⟩
      · obtain ⟨h3, h4⟩ := ih r hr h1
        obtain ⟨i, hi, e⟩ := a5 r hr h3
        rw [← e] at h2
        obtain ⟨h5, h6⟩ := a11 i hi q hq h2
        rw [e] at h6
        exact ⟨h5, by omega⟩
  intro q hq
  have f15 : asg q = true → f q < 16 := fun hs => by
    obtain ⟨i, hi, e⟩ := a5 q hq hs
    have := (a4 i hi).2.2
    rw [e] at this
    omega
  refine ⟨⟨fun hs => ?_, fun hd => ?_⟩, fun hs => ?_, fun k hw => (down k q hq hw).1⟩
  · have := (DD_le (nx := nx) (s := s) (q := q) (k := f q) (f15 hs)).mpr (up _ q hq hs rfl)
    have := f15 hs
    omega
  · have := (DD_le (nx := nx) (s := s) (q := q) (k := 15) (by omega)).mp (by omega)
    exact (down 15 q hq this).1
  · have h1 := (DD_le (nx := nx) (s := s) (q := q) (k := f q) (f15 hs)).mpr (up _ q hq hs rfl)
    have h2 := f15 hs
    have h3 := (DD_le (nx := nx) (s := s) (q := q) (k := DD nx s q) (by omega)).mp (Nat.le_refl _)
    have := (down _ q hq h3).2
    omega
