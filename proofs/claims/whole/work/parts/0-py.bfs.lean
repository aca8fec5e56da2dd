/-! steps from one PLACE to the others -/
theorem b_xor (x y : Int32) (i : Nat) : bt (x ^^^ y) i = (bt x i ^^ bt y i) := by unfold bt; rw [Int32.toBitVec_xor, BitVec.getLsbD_xor]
theorem b_m1 : ∀ i, i < 32 → bt (-1) i = true := by decide +kernel
theorem bt_nI (a : Nat) {i : Nat} (hi : i < 32) : bt (nI a) i = a.testBit i := by
  show (BitVec.ofNat 32 a).getLsbD i = _
  rw [BitVec.getLsbD_ofNat]
  simp [hi]
theorem andn_c {a b : Nat} (ha : a < 65536) : nI a &&& (nI b ^^^ -1) = nI (mset (fun i => a.testBit i && !b.testBit i) 16) := by
  apply b_ext
  intro i hi
  rw [b_and, b_xor, b_m1 i hi, bt_nI _ hi, bt_nI _ hi, bt_nI _ hi, mset_bit]
  by_cases h : i < 16
  · rw [decide_eq_true h, Bool.true_and, Bool.xor_true]
  · rw [decide_eq_false h, Bool.false_and, Nat.testBit_lt_two_pow (Nat.lt_of_lt_of_le ha (Nat.pow_le_pow_right (n := 2) (i := 16) (by decide) (by omega))), Bool.false_and]
def anyb (g : Nat → Bool) : Nat → Bool
  | 0 => false
  | n + 1 => anyb g n || g n
theorem anyb_iff (g : Nat → Bool) (n : Nat) : anyb g n = true ↔ ∃ i, i < n ∧ g i = true := by
  induction n with
  | zero => simp [anyb]
  | succ n ih =>
    unfold anyb
    rw [Bool.or_eq_true, ih]
    constructor
    · rintro (⟨i, h1, h2⟩ | h)
      · exact ⟨i, by omega, h2⟩
      · exact ⟨n, by omega, h⟩
    · rintro ⟨i, h1, h2⟩
      by_cases e : i = n
      · subst e; exact Or.inr h2
      · exact Or.inl ⟨i, by omega, h2⟩
/-- q can be reached from s in k steps or fewer -/
def wkb (nx : Nat → Nat) (s : Nat) : Nat → Nat → Bool
  | 0, q => q == s
  | k + 1, q => wkb nx s k q || anyb (fun r => wkb nx s k r && (nx r).testBit q) 16
theorem wkb_s {nx : Nat → Nat} {s k q : Nat} : wkb nx s (k + 1) q = true ↔ wkb nx s k q = true ∨ ∃ r, r < 16 ∧ wkb nx s k r = true ∧ (nx r).testBit q = true := by
  show (wkb nx s k q || anyb (fun r => wkb nx s k r && (nx r).testBit q) 16) = true ↔ _
  rw [Bool.or_eq_true, anyb_iff]
  constructor
  · rintro (h | ⟨r, h1, h2⟩)
    · exact Or.inl h
    · rw [Bool.and_eq_true] at h2
      exact Or.inr ⟨r, h1, h2.1, h2.2⟩
  · rintro (h | ⟨r, h1, h2, h3⟩)
    · exact Or.inl h
    · exact Or.inr ⟨r, h1, by rw [Bool.and_eq_true]; exact ⟨h2, h3⟩⟩
theorem wkb_0 {nx : Nat → Nat} {s q : Nat} : wkb nx s 0 q = true ↔ q = s := by
  show (q == s) = true ↔ _
  exact beq_iff_eq
theorem wkb_mono {nx : Nat → Nat} {s k l q : Nat} (h : k ≤ l) (hw : wkb nx s k q = true) : wkb nx s l q = true := by
  induction l with
  | zero =>
    have : k = 0 := by omega
    subst this; exact hw
  | succ l ih =>
    by_cases e : k = l + 1
    · subst e; exact hw
    · exact wkb_s.mpr (Or.inl (ih (by omega)))
theorem wkb_self {nx : Nat → Nat} {s k : Nat} : wkb nx s k s = true := wkb_mono (Nat.zero_le k) (wkb_0.mpr rfl)
/-- the number of steps; 16: there is no way -/
def DD (nx : Nat → Nat) (s q : Nat) : Nat := cnt (fun k => !wkb nx s k q) 16
theorem cnt_le (g : Nat → Bool) (n : Nat) : cnt g n ≤ n := by
  induction n with
  | zero => exact Nat.le_refl _
  | succ n ih =>
    unfold cnt
    split <;> omega
theorem cnt_thr (g : Nat → Bool) (h : ∀ k, g (k + 1) = true → g k = true) (n k : Nat) (hk : k < n) : cnt g n ≤ k ↔ g k = false := by
  have down : ∀ a b, a ≤ b → g b = true → g a = true := by
    intro a b hab
    induction b with
    | zero =>
      intro hb
      have : a = 0 := by omega
      subst this; exact hb
    | succ b ih =>
      intro hb
      by_cases e : a = b + 1
      · subst e; exact hb
      · exact ih (by omega) (h b hb)
  have full : ∀ m, (∀ i, i < m → g i = true) → cnt g m = m := by
    intro m
    induction m with
    | zero => intro _; rfl
    | succ m ih =>
      intro hm
      unfold cnt
      rw [ih (fun i hi => hm i (by omega)), if_pos (hm m (by omega))]
  have none : ∀ m, k ≤ m → g k = false → cnt g m = cnt g k := by
    intro m hm hg
    induction m with
    | zero =>
      have : k = 0 := by omega
      subst this; rfl
    | succ m ih =>
      by_cases e : k = m + 1
      · subst e; rfl
      · have hgm : g m = false := by
          by_cases q : g m = true
          · have := down k m (by omega) q
            rw [hg] at this; exact absurd this (by decide)
          · exact Bool.eq_false_iff.mpr q
        show cnt g m + (if g m then 1 else 0) = cnt g k
        rw [ih (by omega), hgm]
        rfl
  have mono : ∀ m, k + 1 ≤ m → cnt g (k + 1) ≤ cnt g m := by
    intro m hm
    induction m with
    | zero => omega
    | succ m ih =>
      by_cases e : k = m
      · subst e; exact Nat.le_refl _
      · have := ih (by omega)
        show cnt g (k + 1) ≤ cnt g m + _
        omega
  constructor
  · intro hle
    by_cases q : g k = true
    · have h1 := full (k + 1) (fun i hi => down i k (by omega) q)
      have h2 := mono n hk
      omega
    · exact Bool.eq_false_iff.mpr q
  · intro hg
    rw [none n (by omega) hg]
    exact cnt_le g k
theorem DD_le {nx : Nat → Nat} {s q k : Nat} (hk : k < 16) : DD nx s q ≤ k ↔ wkb nx s k q = true := by
  unfold DD
  rw [cnt_thr _ (fun k h => ?_) 16 k hk]
  · simp
  · have h' : wkb nx s (k + 1) q = false := by simpa using h
    show (!wkb nx s k q) = true
    by_cases e : wkb nx s k q = true
    · rw [wkb_mono (Nat.le_succ k) e] at h'
      exact absurd h' (by decide)
    · rw [Bool.eq_false_iff.mpr e]; rfl
theorem DD_16 (nx : Nat → Nat) (s q : Nat) : DD nx s q ≤ 16 := cnt_le _ 16
def eb (nx : Nat → Nat) (s : Nat) : Nat → Nat → Bool
  | 0, q => q == s
  | k + 1, q => wkb nx s (k + 1) q && !wkb nx s k q
theorem eb_wkb {nx : Nat → Nat} {s k q : Nat} (h : eb nx s k q = true) : wkb nx s k q = true := by
  cases k with
  | zero => exact h
  | succ k =>
    have h' : (wkb nx s (k + 1) q && !wkb nx s k q) = true := h
    rw [Bool.and_eq_true] at h'
    exact h'.1
theorem eb_DD {nx : Nat → Nat} {s k q : Nat} (hk : k < 16) : eb nx s k q = true ↔ DD nx s q = k := by
  cases k with
  | zero =>
    have h := DD_le (nx := nx) (s := s) (q := q) (k := 0) (by omega)
    rw [wkb_0] at h
    show (q == s) = true ↔ _
    rw [beq_iff_eq]
    omega
  | succ k =>
    have h1 := DD_le (nx := nx) (s := s) (q := q) (k := k) (by omega)
    have h2 := DD_le (nx := nx) (s := s) (q := q) (k := k + 1) (by omega)
    show (wkb nx s (k + 1) q && !wkb nx s k q) = true ↔ _
    rw [Bool.and_eq_true, ← h2, Bool.not_eq_true', ← Bool.not_eq_true, ← h1]
    omega
theorem eb_next {nx : Nat → Nat} {s k q : Nat} : ((∃ p, p < 16 ∧ eb nx s k p = true ∧ ((nx p).testBit q = true ∨ p = q)) ∧ ¬ wkb nx s k q = true) ↔ eb nx s (k + 1) q = true := by
  show _ ↔ (wkb nx s (k + 1) q && !wkb nx s k q) = true
  rw [Bool.and_eq_true, Bool.not_eq_true', ← Bool.not_eq_true]
  constructor
  · rintro ⟨⟨p, hp, h1, h2⟩, h3⟩
    refine ⟨?_, h3⟩
    rcases h2 with h2 | h2
    · exact wkb_s.mpr (Or.inr ⟨p, hp, eb_wkb h1, h2⟩)
    · subst h2; exact absurd (eb_wkb h1) h3
  · rintro ⟨h1, h2⟩
    refine ⟨?_, h2⟩
    rcases wkb_s.mp h1 with h | ⟨r, hr, h3, h4⟩
    · exact absurd h h2
    · refine ⟨r, hr, ?_, Or.inl h4⟩
      cases k with
      | zero => exact h3
      | succ k =>
        show (wkb nx s (k + 1) r && !wkb nx s k r) = true
        rw [Bool.and_eq_true, Bool.not_eq_true', ← Bool.not_eq_true]
        exact ⟨h3, fun h => h2 (wkb_s.mpr (Or.inr ⟨r, hr, h, h4⟩))⟩
theorem wkb_stable {nx : Nat → Nat} {s k : Nat} (h : ∀ q, q < 16 → wkb nx s (k + 1) q = true → wkb nx s k q = true) (i : Nat) : ∀ q, q < 16 → wkb nx s (k + i) q = true → wkb nx s k q = true := by
  induction i with
  | zero => intro q _ h; exact h
  | succ i ih =>
    intro q hq hw
    rcases wkb_s.mp hw with hw | ⟨r, hr, h3, h4⟩
    · exact ih q hq hw
    · exact h q hq (wkb_s.mpr (Or.inr ⟨r, hr, ih r hr h3, h4⟩))
/-- the steps as they stand in the rows -/
def st (nx : Nat → Nat) (s q : Nat) : Int32 := if DD nx s q < 16 then nI (DD nx s q) else -1
theorem mset_eq {h : Nat → Bool} {n : Nat} {T : Nat} (hT : T < 2 ^ n) (e : ∀ i, i < n → T.testBit i = h i) : T = mset h n := by
  rw [← mset_self hT]
  exact mset_congr e
theorem aroundAny_c {f : Nat → Int32} {A : Nat → Nat → Int32} {nx : Nat → Nat} {E : Nat} (hn : ∀ p, p < 16 → A 1 p = nI (nx p) ∧ nx p < 65536) (hE : E < 65536) : f1_aroundAny f A (nI E) = some (nI (mset (fun q => anyb (fun p => E.testBit p && ((nx p).testBit q || p == q)) 16) 16)) := by
  unfold f1_aroundAny
  refine loop_one (fun n (s : Int32 × Int32) => f1_aroundAny_l4 f A (nI E) n s.1 s.2) 16 (fun j s => s = (nI (mset (fun q => anyb (fun p => E.testBit p && ((nx p).testBit q || p == q)) j) 16), nI j)) (fun a => a = some (nI (mset (fun q => anyb (fun p => E.testBit p && ((nx p).testBit q || p == q)) 16) 16))) (by decide) ?_ (0, 0) ?_
  · rintro n j s hj rfl
    simp (maxSteps := 3000000) (disch := omega) only [f1_aroundAny_l4, f1_aroundAny_b4, litI, letv, eqI, leI, ltI, addI, mulI, subI, clI, addneg, at_nI, put_nI, nI_s, orI, shl1I, ifb0, ifb1, Option.bind_some, gx, ux, Nat.add_zero, Nat.zero_add, Nat.not_lt_zero, false_or, or_false, Nat.mul_zero, Nat.zero_mul]
    by_cases h : 16 ≤ j
    · have : j = 16 := by omega
      subst this
      left
      rw [if_pos (by omega)]
    right
    obtain ⟨h1, h2⟩ := hn j (by omega)
    simp (maxSteps := 3000000) (disch := omega) only [if_neg h, has9I, litI, letv, eqI, leI, ltI, addI, mulI, subI, clI, addneg, at_nI, put_nI, nI_s, orI, shl1I, ifb0, ifb1, Option.bind_some, gx, ux, Nat.add_zero, Nat.zero_add, Nat.not_lt_zero, false_or, or_false, Nat.mul_zero, Nat.zero_mul, f1_around, h1]
    refine ⟨by omega, ?_⟩
    have hp : 2 ^ j < 2 ^ 16 := Nat.pow_lt_pow_right (by decide) (by omega)
    by_cases q : E.testBit j = true
    · simp (maxSteps := 3000000) (disch := omega) only [q, eq_self, not_true, if_false]
      refine ⟨(_, _), rfl, ?_⟩
      refine Prod.ext (congrArg nI ?_) rfl
      refine mset_eq (n := 16) (Nat.or_lt_two_pow (mset_lt _ _) (Nat.or_lt_two_pow h2 hp)) (fun i hi => ?_)
      rw [Nat.testBit_or, Nat.testBit_or, mset_bit, decide_eq_true hi, Bool.true_and, Nat.testBit_two_pow]
      show _ = (anyb _ j || (E.testBit j && ((nx j).testBit i || j == i)))
      rw [q, Bool.true_and]
      congr 2
    · simp (maxSteps := 3000000) (disch := omega) only [q, Bool.false_eq_true, not_false_eq_true, if_true]
      refine ⟨(_, _), rfl, ?_⟩
      refine Prod.ext (congrArg nI ?_) rfl
      refine mset_congr (fun i hi => ?_)
      show _ = (anyb _ j || (E.testBit j && ((nx j).testBit i || j == i)))
      rw [Bool.eq_false_iff.mpr q, Bool.false_and, Bool.or_false]
  · show ((0 : Int32), (0 : Int32)) = (nI (mset (fun _ => false) 16), nI 0)
    rfl
theorem measure_c {f : Nat → Int32} {A : Nat → Nat → Int32} {nx : Nat → Nat} {s : Nat} (hs : s < 16) (hn : ∀ p, p < 16 → A 1 p = nI (nx p) ∧ nx p < 65536) : ∃ A', f1_measure f A (nI s) = some A' ∧ (∀ q, q < 16 → A' 2 q = st nx s q) ∧ ∀ j, j ≠ 2 → A' j = A j := by
  -- layer by layer
  have layers : ∀ A1 : Nat → Nat → Int32, (∀ q, q < 16 → A1 2 q = -1) → (∀ j, j ≠ 2 → A1 j = A j) → ∃ A', f1_measure_l33 f (nI s) NF A1 (nI (2 ^ s)) (nI (2 ^ s)) 0 = some A' ∧ (∀ q, q < 16 → A' 2 q = st nx s q) ∧ ∀ j, j ≠ 2 → A' j = A j := by
    intro A1 h1 h2
    have h2s : 2 ^ s < 2 ^ 16 := Nat.pow_lt_pow_right (by decide) hs
    have bit0 : ∀ i, (2 ^ s).testBit i = (i == s) := fun i => by
      rw [Nat.testBit_two_pow]
      by_cases e : s = i
      · subst e; simp
      · simp [e, show ¬ i = s from fun h => e h.symm]
    refine loop_one (fun n (x : (Nat → Nat → Int32) × Int32 × Int32 × Int32) => f1_measure_l33 f (nI s) n x.1 x.2.1 x.2.2.1 x.2.2.2) 16
      (fun k x => ∃ A2, x = (A2, nI (mset (wkb nx s k) 16), nI (mset (eb nx s k) 16), nI k) ∧ (∀ q, q < 16 → A2 2 q = if DD nx s q < k then nI (DD nx s q) else -1) ∧ ∀ j, j ≠ 2 → A2 j = A j)
      (fun a => ∃ A', a = some A' ∧ (∀ q, q < 16 → A' 2 q = st nx s q) ∧ ∀ j, j ≠ 2 → A' j = A j) (by decide) ?_ (A1, _, _, _) ?_
    · rintro n k x hk ⟨A2, rfl, p1, p2⟩
      have e33 : ∀ n A2 r e i, f1_measure_l33 f (nI s) (n + 1) A2 r e i = f1_measure_b33 f (nI s) (f1_measure_l33 f (nI s) n) A2 r e i := fun _ _ _ _ _ => rfl
      simp only [e33]
      generalize f1_measure_l33 f (nI s) n = Kn
      unfold f1_measure_b33
      by_cases h16 : 16 ≤ k
      · left
        have : k = 16 := by omega
        subst this
        rw [if_pos (by decide)]
        exact ⟨A2, rfl, p1, p2⟩
      have hk' : k < 16 := by omega
      rw [if_neg (ge16 hk')]
      have em : mset (eb nx s k) 16 < 65536 := mset_lt _ 16
      have rm : mset (wkb nx s k) 16 < 65536 := mset_lt _ 16
      by_cases he : mset (eb nx s k) 16 = 0
      · left
        rw [he, if_pos (show nI 0 = (0 : Int32) from rfl)]
        refine ⟨A2, rfl, fun q hq => ?_, p2⟩
        have none : ∀ q, q < 16 → ¬ eb nx s k q = true := fun q hq h => by
          have := mset_bit (eb nx s k) 16 q
          rw [he, Nat.zero_testBit, decide_eq_true hq, Bool.true_and, h] at this
          exact absurd this (by decide)
        rw [p1 q hq]
        unfold st
        by_cases hd : DD nx s q < k
        · rw [if_pos hd, if_pos (by omega)]
        · rw [if_neg hd]
          by_cases hd2 : DD nx s q < 16
          · exfalso
            cases k with
            | zero => exact none s hs (by show (s == s) = true; simp)
            | succ k =>
              have stab : ∀ q, q < 16 → wkb nx s (k + 1) q = true → wkb nx s k q = true := fun q hq hw => by
                by_cases w : wkb nx s k q = true
                · exact w
                · exfalso
                  refine none q hq ?_
                  show (wkb nx s (k + 1) q && !wkb nx s k q) = true
                  rw [hw, Bool.eq_false_iff.mpr w]; rfl
              have w15 : wkb nx s 15 q = true := (DD_le (by omega)).mp (by omega)
              have wk := wkb_stable stab (15 - k) q hq (by rw [show k + (15 - k) = 15 by omega]; exact w15)
              have := (DD_le (nx := nx) (s := s) (q := q) (k := k) (by omega)).mpr wk
              omega
          · rw [if_neg hd2]
      · right
        refine ⟨hk', ?_⟩
        rw [if_neg (by rw [show (0 : Int32) = nI 0 from rfl, eqI (by omega) (by omega)]; exact he)]
        -- the inner loop lays the steps of this layer
        have inner : ∃ A3, f1_measure_l47 f (nI s) Kn NF A2 (nI (mset (wkb nx s k) 16)) (nI (mset (eb nx s k) 16)) (nI k) 0 = Kn A3 (nI (mset (wkb nx s (k + 1)) 16)) (nI (mset (eb nx s (k + 1)) 16)) (nI (k + 1)) ∧ (∀ q, q < 16 → A3 2 q = if DD nx s q < k + 1 then nI (DD nx s q) else -1) ∧ ∀ j, j ≠ 2 → A3 j = A j := by
          refine loop_one (fun n (x : (Nat → Nat → Int32) × Int32) => f1_measure_l47 f (nI s) Kn n x.1 (nI (mset (wkb nx s k) 16)) (nI (mset (eb nx s k) 16)) (nI k) x.2) 16
            (fun i x => ∃ A3, x = (A3, nI i) ∧ (∀ q, q < 16 → A3 2 q = if DD nx s q < k ∨ (q < i ∧ DD nx s q = k) then nI (DD nx s q) else -1) ∧ ∀ j, j ≠ 2 → A3 j = A j)
            (fun a => ∃ A3, a = Kn A3 (nI (mset (wkb nx s (k + 1)) 16)) (nI (mset (eb nx s (k + 1)) 16)) (nI (k + 1)) ∧ (∀ q, q < 16 → A3 2 q = if DD nx s q < k + 1 then nI (DD nx s q) else -1) ∧ ∀ j, j ≠ 2 → A3 j = A j) (by decide) ?_ (A2, 0) ⟨A2, rfl, fun q hq => by rw [p1 q hq]; simp, p2⟩
          rintro n i x hi ⟨A3, rfl, r1, r2⟩
          have e47 : ∀ n A3 i, f1_measure_l47 f (nI s) Kn (n + 1) A3 (nI (mset (wkb nx s k) 16)) (nI (mset (eb nx s k) 16)) (nI k) i = f1_measure_b47 f (nI s) Kn (f1_measure_l47 f (nI s) Kn n) A3 (nI (mset (wkb nx s k) 16)) (nI (mset (eb nx s k) 16)) (nI k) i := fun _ _ _ => rfl
          simp only [e47]
          unfold f1_measure_b47
          by_cases hi16 : 16 ≤ i
          · left
            have : i = 16 := by omega
            subst this
            have hn3 : ∀ p, p < 16 → A3 1 p = nI (nx p) ∧ nx p < 65536 := fun p hp => by rw [r2 1 (by decide)]; exact hn p hp
            rw [if_pos (by decide), aroundAny_c hn3 em, Option.bind_some, andn_c (mset_lt _ 16), orI, nI_s]
            have e1 : mset (fun i => (mset (fun q => anyb (fun p => (mset (eb nx s k) 16).testBit p && ((nx p).testBit q || p == q)) 16) 16).testBit i && !(mset (wkb nx s k) 16).testBit i) 16 = mset (eb nx s (k + 1)) 16 := by
              refine mset_congr (fun i hi => ?_)
              rw [mset_bit, mset_bit, decide_eq_true hi, Bool.true_and, Bool.true_and]
              apply Bool.eq_iff_iff.mpr
              rw [Bool.and_eq_true, anyb_iff, Bool.not_eq_true', ← Bool.not_eq_true, ← eb_next]
              constructor
              · rintro ⟨⟨p, hp, h3⟩, h4⟩
                rw [mset_bit, decide_eq_true hp, Bool.true_and, Bool.and_eq_true, Bool.or_eq_true, beq_iff_eq] at h3
                exact ⟨⟨p, hp, h3.1, h3.2⟩, h4⟩
              · rintro ⟨⟨p, hp, h3, h5⟩, h4⟩
                refine ⟨⟨p, hp, ?_⟩, h4⟩
                rw [mset_bit, decide_eq_true hp, Bool.true_and, Bool.and_eq_true, Bool.or_eq_true, beq_iff_eq]
                exact ⟨h3, h5⟩
            rw [e1]
            have e2 : mset (wkb nx s k) 16 ||| mset (eb nx s (k + 1)) 16 = mset (wkb nx s (k + 1)) 16 := by
              refine mset_eq (Nat.or_lt_two_pow (mset_lt _ 16) (mset_lt _ 16)) (fun i hi => ?_)
              rw [Nat.testBit_or, mset_bit, mset_bit, decide_eq_true hi, Bool.true_and, Bool.true_and]
              show (wkb nx s k i || (wkb nx s (k + 1) i && !wkb nx s k i)) = wkb nx s (k + 1) i
              by_cases w : wkb nx s k i = true
              · rw [w, wkb_mono (Nat.le_succ k) w]; rfl
              · rw [Bool.eq_false_iff.mpr w]; simp
            rw [e2]
            refine ⟨A3, rfl, fun q hq => ?_, r2⟩
            rw [r1 q hq]
            by_cases u : DD nx s q < k + 1
            · rw [if_pos u, if_pos (by omega)]
            · rw [if_neg u, if_neg (by omega)]
          · right
            refine ⟨by omega, ?_⟩
            simp (maxSteps := 3000000) (disch := omega) only [litI, letv, eqI, leI, ltI, addI, mulI, subI, clI, addneg, at_nI, put_nI, nI_s, orI, shl1I, ifb0, ifb1, Option.bind_some, gx, ux, Nat.add_zero, Nat.zero_add, Nat.not_lt_zero, false_or, or_false, Nat.mul_zero, Nat.zero_mul, if_neg, has9I, mset_bit]
            have bi := eb_DD (nx := nx) (s := s) (q := i) hk'
            by_cases q : eb nx s k i = true
            · have dk := bi.mp q
              have di : decide (i < 16) = true := decide_eq_true (by omega)
              simp (maxSteps := 3000000) (disch := omega) only [q, di, Bool.true_and, eq_self, not_true, if_false]
              refine ⟨(updA A3 2 (upd (A3 2) i (nI k)), nI (i + 1)), rfl, _, rfl, fun q' hq' => ?_, fun j hj => (updA_n hj).trans (r2 j hj)⟩
              show updA A3 2 (upd (A3 2) i (nI k)) 2 q' = _
              rw [updA_s]
              by_cases e : q' = i
              · subst e
                rw [upd_s, if_pos (by omega), dk]
              · rw [upd_n e, r1 q' hq']
                by_cases u : DD nx s q' < k ∨ (q' < i ∧ DD nx s q' = k)
                · rw [if_pos u, if_pos (by omega)]
                · rw [if_neg u, if_neg (by omega)]; rfl
            · have dk : ¬ DD nx s i = k := fun h => q (bi.mpr h)
              simp (maxSteps := 3000000) (disch := omega) only [q, Bool.and_false, Bool.false_eq_true, not_false_eq_true, if_true]
              refine ⟨(A3, nI (i + 1)), rfl, _, rfl, fun q' hq' => ?_, r2⟩
              rw [r1 q' hq']
              by_cases e : q' = i
              · subst e
                by_cases u : DD nx s q' < k
                · rw [if_pos (by omega), if_pos (by omega)]
                · rw [if_neg (by omega), if_neg (by omega)]; rfl
              · by_cases u : DD nx s q' < k ∨ (q' < i ∧ DD nx s q' = k)
                · rw [if_pos u, if_pos (by omega)]
                · rw [if_neg u, if_neg (by omega)]; rfl
        obtain ⟨A3, i1, i2, i3⟩ := inner
        exact ⟨(A3, _, _, _), i1, A3, rfl, i2, i3⟩
    · refine ⟨A1, ?_, fun q hq => by rw [h1 q hq]; simp, h2⟩
      have e1 : 2 ^ s = mset (wkb nx s 0) 16 := mset_eq h2s (fun i _ => bit0 i)
      have e2 : 2 ^ s = mset (eb nx s 0) 16 := mset_eq h2s (fun i _ => bit0 i)
      rw [← e1, ← e2]
      rfl
  unfold f1_measure
  refine loop_one (fun n (x : (Nat → Nat → Int32) × Int32) => f1_measure_l2 f (nI s) n x.1 x.2) 16
    (fun k x => ∃ A2, x = (A2, nI k) ∧ (∀ q, q < k → A2 2 q = -1) ∧ ∀ j, j ≠ 2 → A2 j = A j)
    (fun a => ∃ A', a = some A' ∧ (∀ q, q < 16 → A' 2 q = st nx s q) ∧ ∀ j, j ≠ 2 → A' j = A j) (by decide) ?_ (A, 0) ⟨A, rfl, fun q hq => absurd hq (by omega), fun _ _ => rfl⟩
  rintro n k x hk ⟨A2, rfl, p1, p2⟩
  have e2 : ∀ n A2 i, f1_measure_l2 f (nI s) (n + 1) A2 i = f1_measure_b2 f (nI s) (f1_measure_l2 f (nI s) n) A2 i := fun _ _ _ => rfl
  simp only [e2]
  unfold f1_measure_b2
  by_cases h16 : 16 ≤ k
  · left
    have : k = 16 := by omega
    subst this
    rw [if_pos (by decide), shl1 (by omega)]
    exact layers A2 p1 p2
  right
  refine ⟨by omega, ?_⟩
  simp (maxSteps := 3000000) (disch := omega) only [litI, letv, eqI, leI, ltI, addI, mulI, subI, clI, addneg, at_nI, put_nI, nI_s, orI, shl1I, ifb0, ifb1, Option.bind_some, gx, ux, Nat.add_zero, Nat.zero_add, Nat.not_lt_zero, false_or, or_false, Nat.mul_zero, Nat.zero_mul, if_neg]
  refine ⟨(updA A2 2 (upd (A2 2) k (-nI 1)), nI (k + 1)), rfl, _, rfl, fun q hq => ?_, fun j hj => (updA_n hj).trans (p2 j hj)⟩
  show updA A2 2 (upd (A2 2) k (-nI 1)) 2 q = -1
  rw [updA_s]
  by_cases e : q = k
  · subst e; exact upd_s
  · rw [upd_n e]; exact p1 q (by omega)
