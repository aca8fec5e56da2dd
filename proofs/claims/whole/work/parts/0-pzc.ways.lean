def wcond (nx : Nat → Nat) (s p q : Nat) : Bool := decide (DD nx s q < 16) && (nx p).testBit q && (DD nx s p + 1 == DD nx s q)
/-- in how many ways as short as can be: R q of them to q -/
def WROWS (nx : Nat → Nat) (s : Nat) (R : Nat → Int32) : Prop := ∀ q, q < 16 → R q = (if q = s then 1 else 0) + isum (fun p => if wcond nx s p q then R p else 0) 16
theorem wrows_one {nx : Nat → Nat} {s : Nat} {R R' : Nat → Int32} (h : WROWS nx s R) (h' : WROWS nx s R') : ∀ n q, q < 16 → DD nx s q = n → R q = R' q := by
  intro n
  induction n with
  | zero =>
    intro q hq hd
    rw [h q hq, h' q hq]
    refine congrArg (fun z => (if q = s then (1 : Int32) else 0) + z) (isum_congr (fun p hp => ?_))
    have : wcond nx s p q = false := by
      unfold wcond
      rw [hd, beq_eq_false_iff_ne.mpr (by omega), Bool.and_false]
    rw [this]; rfl
  | succ n ih =>
    intro q hq hd
    rw [h q hq, h' q hq]
    refine congrArg (fun z => (if q = s then (1 : Int32) else 0) + z) (isum_congr (fun p hp => ?_))
    by_cases e : wcond nx s p q = true
    · rw [if_pos e, if_pos e]
      unfold wcond at e
      simp only [Bool.and_eq_true, beq_iff_eq] at e
      exact ih p hp (by omega)
    · rw [if_neg e, if_neg e]
theorem lays_st {g : Nat → Int32} {A : Nat → Nat → Int32} {nx : Nat → Nat} {s : Nat} (hs : s < 16) (hn : ∀ p, p < 16 → A 3 p = nI (nx p) ∧ nx p < 65536) : ∃ A', f10_laysSteps g A (nI s) = some A' ∧ (∀ q, q < 16 → A' 46 q = st nx s q) ∧ WROWS nx s (A' 47) ∧ (∀ j, j ≠ 45 → j ≠ 46 → j ≠ 47 → A' j = A j) ∧ ∀ q k, q < 16 → wkb nx s k q = true → DD nx s q < 16 := by
  obtain ⟨A', many, asg, f, ln, e1, hB, hR, h46, hfr⟩ := lays_c (g := g) hs hn
  have hd := hB.done
  refine ⟨A', e1, fun q hq => ?_, fun q hq => ?_, hfr, fun q k hq hw => (hd q hq).1.mp ((hd q hq).2.2 k hw)⟩
  · rw [h46 q hq]
    unfold st
    by_cases e : asg q = true
    · rw [if_pos e, if_pos ((hd q hq).1.mp e), (hd q hq).2.1 e]
    · rw [if_neg e, if_neg (fun h => e ((hd q hq).1.mpr h))]
  · refine (hR q hq).trans (congrArg (fun z => (if q = s then (1 : Int32) else 0) + z) (isum_congr (fun p hp => ?_)))
    have : cnd nx many 0 asg f ln p q = wcond nx s p q := by
      apply Bool.eq_iff_iff.mpr
      unfold cnd wcond
      simp only [Bool.and_eq_true, Bool.or_eq_true, anyb_iff, beq_iff_eq, decide_eq_true_eq]
      constructor
      · rintro ⟨⟨⟨⟨c1, c2⟩, c3⟩, c4⟩, -⟩
        refine ⟨⟨(hd q hq).1.mp c2, c3⟩, ?_⟩
        rw [← (hd p hp).2.1 c1, ← (hd q hq).2.1 c2]; exact c4
      · rintro ⟨⟨c1, c2⟩, c3⟩
        have ap := (hd p hp).1.mpr (by omega)
        have aq := (hd q hq).1.mpr c1
        obtain ⟨i, hi, e⟩ := hB.2.2.2.2.1 p hp ap
        refine ⟨⟨⟨⟨ap, aq⟩, c2⟩, ?_⟩, Or.inl ⟨i, hi, e⟩⟩
        rw [(hd p hp).2.1 ap, (hd q hq).2.1 aq]; exact c3
    rw [this]
theorem DD_fin {nx : Nat → Nat} {s q k : Nat} (hs : s < 16) (hq : q < 16) (hn : ∀ p, p < 16 → nx p < 65536) (hw : wkb nx s k q = true) : DD nx s q < 16 := by
  obtain ⟨A', -, -, -, -, h⟩ := lays_st (g := fun _ => 0) (A := fun _ p => nI (nx p)) hs (fun p hp => ⟨rfl, hn p hp⟩)
  exact h q k hq hw
theorem stepsTo_c {f : Nat → Int32} {A : Nat → Nat → Int32} {q : Nat} (hq : q < 16) : f1_stepsTo f A (nI q) = A 2 q := by
  unfold f1_stepsTo
  have : f9_within (nI q) 0 15 = nI 1 := by
    rw [show (0 : Int32) = nI 0 from rfl, show (15 : Int32) = nI 15 from rfl, withinI (by omega) (by omega) (by omega), if_pos (by omega)]
  rw [this, if_neg (by decide), at_nI hq (by decide)]
theorem st_eq {nx : Nat → Nat} {s q n : Nat} (hn : n < 16) : st nx s q = nI n ↔ DD nx s q = n := by
  have := DD_16 nx s q
  unfold st
  by_cases h : DD nx s q < 16
  · rw [if_pos h, eqI (by omega) (by omega)]
  · rw [if_neg h, show (-1 : Int32) = -nI 1 from rfl, neg_eq (by omega) (by omega) (by omega)]
    exact ⟨fun h => h.elim, fun h => by omega⟩
theorem DD_0 {nx : Nat → Nat} {s q : Nat} : DD nx s q = 0 ↔ q = s := by
  have h := DD_le (nx := nx) (s := s) (q := q) (k := 0) (by omega)
  rw [wkb_0] at h
  omega
theorem fromCloser_c {f : Nat → Int32} {A : Nat → Nat → Int32} {nx : Nat → Nat} {s i far : Nat} (hi : i < 16) (h1 : 1 ≤ far) (h16 : far < 16) (hn : ∀ p, p < 16 → A 1 p = nI (nx p) ∧ nx p < 65536) (hst : ∀ q, q < 16 → A 2 q = st nx s q) : f1_waysFromCloser f A (nI i) (nI far) = some (isum (fun p => if (nx i).testBit p && (DD nx s p + 1 == far) then A 3 p else 0) 16) := by
  unfold f1_waysFromCloser
  refine loop_one (fun n (x : Int32 × Int32) => f1_waysFromCloser_l5 f A (nI i) (nI far) n x.1 x.2) 16 (fun j x => x = (isum (fun p => if (nx i).testBit p && (DD nx s p + 1 == far) then A 3 p else 0) j, nI j)) (fun a => a = some (isum (fun p => if (nx i).testBit p && (DD nx s p + 1 == far) then A 3 p else 0) 16)) (by decide) ?_ (0, 0) rfl
  rintro n j x hj rfl
  simp (maxSteps := 3000000) (disch := omega) only [f1_waysFromCloser_l5, f1_waysFromCloser_b5]
  by_cases h : 16 ≤ j
  · have : j = 16 := by omega
    subst this
    left
    rw [if_pos (by decide)]
  right
  refine ⟨by omega, ?_⟩
  have e0 : f1_stepsTo f A (nI j) = st nx s j := by rw [stepsTo_c (by omega), hst j (by omega)]
  have ef : nI far - 1 = nI (far - 1) := subI h1
  rw [if_neg (ge16 (by omega)), at_nI hi (by decide), (hn i hi).1, has9 (by have := (hn i hi).2; omega) (by omega), at_nI (by omega) (by decide), e0, ef, nI_s]
  have es := st_eq (nx := nx) (s := s) (q := j) (n := far - 1) (by omega)
  have unf : isum (fun p => if (nx i).testBit p && (DD nx s p + 1 == far) then A 3 p else 0) (j + 1) = isum (fun p => if (nx i).testBit p && (DD nx s p + 1 == far) then A 3 p else 0) j + if (nx i).testBit j && (DD nx s j + 1 == far) then A 3 j else 0 := rfl
  by_cases q : (nx i).testBit j = true
  · rw [if_pos q, if_neg n10]
    by_cases d : DD nx s j = far - 1
    · rw [if_pos (es.mpr d)]
      refine ⟨(_, _), rfl, ?_⟩
      rw [unf, q, Bool.true_and, beq_iff_eq.mpr (by omega), if_pos rfl]
      rfl
    · rw [if_neg (fun h => d (es.mp h))]
      refine ⟨(_, _), rfl, ?_⟩
      rw [unf, q, Bool.true_and, beq_eq_false_iff_ne.mpr (by omega), if_neg (by decide), Int32.add_zero]
      rfl
  · rw [if_neg q, if_pos rfl]
    refine ⟨(_, _), rfl, ?_⟩
    rw [unf, Bool.eq_false_iff.mpr q, Bool.false_and, if_neg (by decide), Int32.add_zero]
    rfl
/-- the class's tally, as far as it has come -/
def TAL (nx : Nat → Nat) (s far i : Nat) (T : Nat → Int32) : Prop := (∀ q, q < 16 → (DD nx s q < far ∨ (DD nx s q = far ∧ q < i)) → T q = (if q = s then 1 else 0) + isum (fun p => if wcond nx s p q then T p else 0) 16) ∧ ∀ q, q < 16 → ¬ (DD nx s q < far ∨ (DD nx s q = far ∧ q < i)) → T q = if q = s then 1 else 0
theorem tal_upd {nx : Nat → Nat} {s far i : Nat} {T : Nat → Int32} (h : TAL nx s far i T) (hsym : ∀ p q, p < 16 → q < 16 → (nx p).testBit q = (nx q).testBit p) (hi : i < 16) (h1 : 1 ≤ far) (h16 : far < 16) (hd : DD nx s i = far) : TAL nx s far (i + 1) (upd T i (isum (fun p => if (nx i).testBit p && (DD nx s p + 1 == far) then T p else 0) 16)) := by
  have his : i ≠ s := fun e => by rw [DD_0.mpr e] at hd; omega
  have same : ∀ N q x, DD nx s q ≤ far → isum (fun p => if wcond nx s p q then upd T i x p else 0) N = isum (fun p => if wcond nx s p q then T p else 0) N := fun N q x hq => isum_congr (fun p hp => by
    by_cases e : p = i
    · subst e
      have : wcond nx s p q = false := by
        unfold wcond
        rw [beq_eq_false_iff_ne.mpr (by omega), Bool.and_false]
      rw [this]; rfl
    · rw [upd_n e])
  refine ⟨fun q hq hc => ?_, fun q hq hc => ?_⟩
  · rw [same 16 q _ (by omega)]
    by_cases e : q = i
    · subst e
      rw [upd_s, if_neg his, Int32.zero_add]
      refine isum_congr (fun p hp => ?_)
      have : wcond nx s p q = ((nx q).testBit p && (DD nx s p + 1 == far)) := by
        unfold wcond
        rw [hd, decide_eq_true h16, Bool.true_and, hsym p q hp hq]
      rw [this]
    · rw [upd_n e]
      exact h.1 q hq (by omega)
  · have e : q ≠ i := fun e => hc (by subst e; exact Or.inr ⟨hd, by omega⟩)
    rw [upd_n e]
    exact h.2 q hq (fun hh => hc (by omega))
theorem shortest_c {f : Nat → Int32} {A : Nat → Nat → Int32} {nx : Nat → Nat} {s q : Nat} (hs : s < 16) (hq : q < 16) (hn : ∀ p, p < 16 → A 1 p = nI (nx p) ∧ nx p < 65536) (hsym : ∀ p q, p < 16 → q < 16 → (nx p).testBit q = (nx q).testBit p) : ∃ r A', f1_shortestWays f A (nI s) (nI q) = some (r, A') ∧ (∃ R, WROWS nx s R ∧ r = R q) ∧ ∀ j, j ≠ 2 → j ≠ 3 → A' j = A j := by
  obtain ⟨A1, e1, hst, hfr⟩ := measure_c (f := f) hs hn
  unfold f1_shortestWays
  rw [e1, Option.bind_some]
  have layers : ∀ A2 : Nat → Nat → Int32, TAL nx s 1 0 (A2 3) → A2 2 = A1 2 → (∀ j, j ≠ 2 → j ≠ 3 → A2 j = A j) → ∃ r A', f1_shortestWays_l40 f (nI s) (nI q) NF A2 1 = some (r, A') ∧ (∃ R, WROWS nx s R ∧ r = R q) ∧ ∀ j, j ≠ 2 → j ≠ 3 → A' j = A j := by
    intro A2 hT h2 h3
    refine loop_one (fun n (x : (Nat → Nat → Int32) × Int32) => f1_shortestWays_l40 f (nI s) (nI q) n x.1 x.2) 15
      (fun k x => ∃ A3, x = (A3, nI (k + 1)) ∧ TAL nx s (k + 1) 0 (A3 3) ∧ A3 2 = A1 2 ∧ ∀ j, j ≠ 2 → j ≠ 3 → A3 j = A j)
      (fun a => ∃ r A', a = some (r, A') ∧ (∃ R, WROWS nx s R ∧ r = R q) ∧ ∀ j, j ≠ 2 → j ≠ 3 → A' j = A j) (by decide) ?_ (A2, 1) ⟨A2, rfl, hT, h2, h3⟩
    rintro n k x hk ⟨A3, rfl, hT3, g2, g3⟩
    have e40 : ∀ n A3 i, f1_shortestWays_l40 f (nI s) (nI q) (n + 1) A3 i = f1_shortestWays_b40 f (nI s) (nI q) (f1_shortestWays_l40 f (nI s) (nI q) n) A3 i := fun _ _ _ => rfl
    simp only [e40]
    generalize f1_shortestWays_l40 f (nI s) (nI q) n = Kn
    unfold f1_shortestWays_b40
    by_cases h15 : 15 ≤ k
    · left
      have : k = 15 := by omega
      subst this
      rw [if_pos (by decide), at_nI hq (by decide)]
      refine ⟨_, A3, rfl, ⟨A3 3, fun q hq => ?_, rfl⟩, g3⟩
      by_cases hd : DD nx s q < 16
      · exact hT3.1 q hq (Or.inl hd)
      · rw [hT3.2 q hq (by omega)]
        have z : ∀ N, isum (fun p => if wcond nx s p q then A3 3 p else 0) N = 0 := fun N => isum_zero (fun p _ => by
          have : wcond nx s p q = false := by
            unfold wcond
            rw [decide_eq_false hd]; simp
          rw [this]; rfl)
        rw [z, Int32.add_zero]
    right
    refine ⟨by omega, ?_⟩
    rw [if_neg (ge16 (show k + 1 < 16 by omega))]
    have inner : ∃ A4, f1_shortestWays_l49 f (nI s) (nI q) Kn NF A3 (nI (k + 1)) 0 = Kn A4 (nI (k + 1 + 1)) ∧ TAL nx s (k + 1 + 1) 0 (A4 3) ∧ A4 2 = A1 2 ∧ ∀ j, j ≠ 2 → j ≠ 3 → A4 j = A j := by
      refine loop_one (fun n (x : (Nat → Nat → Int32) × Int32) => f1_shortestWays_l49 f (nI s) (nI q) Kn n x.1 (nI (k + 1)) x.2) 16
        (fun i x => ∃ A4, x = (A4, nI i) ∧ TAL nx s (k + 1) i (A4 3) ∧ A4 2 = A1 2 ∧ ∀ j, j ≠ 2 → j ≠ 3 → A4 j = A j)
        (fun a => ∃ A4, a = Kn A4 (nI (k + 1 + 1)) ∧ TAL nx s (k + 1 + 1) 0 (A4 3) ∧ A4 2 = A1 2 ∧ ∀ j, j ≠ 2 → j ≠ 3 → A4 j = A j) (by decide) ?_ (A3, 0) ⟨A3, rfl, hT3, g2, g3⟩
      rintro n i x hi ⟨A4, rfl, hT4, u2, u3⟩
      have e49 : ∀ n A4 i, f1_shortestWays_l49 f (nI s) (nI q) Kn (n + 1) A4 (nI (k + 1)) i = f1_shortestWays_b49 f (nI s) (nI q) Kn (f1_shortestWays_l49 f (nI s) (nI q) Kn n) A4 (nI (k + 1)) i := fun _ _ _ => rfl
      simp only [e49]
      generalize f1_shortestWays_l49 f (nI s) (nI q) Kn n = Jn
      unfold f1_shortestWays_b49
      by_cases h16 : 16 ≤ i
      · left
        have : i = 16 := by omega
        subst this
        rw [if_pos (by decide), nI_s]
        refine ⟨A4, rfl, ⟨fun q hq hc => hT4.1 q hq (by omega), fun q hq hc => hT4.2 q hq (by omega)⟩, u2, u3⟩
      right
      refine ⟨by omega, ?_⟩
      have hst4 : ∀ q, q < 16 → A4 2 q = st nx s q := fun q hq => by rw [u2]; exact hst q hq
      have hn4 : ∀ p, p < 16 → A4 1 p = nI (nx p) ∧ nx p < 65536 := fun p hp => by rw [u3 1 (by decide) (by decide)]; exact hn p hp
      rw [if_neg (ge16 (show i < 16 by omega)), stepsTo_c (by omega), hst4 i (by omega), nI_s]
      have es := st_eq (nx := nx) (s := s) (q := i) (n := k + 1) (by omega)
      by_cases d : DD nx s i = k + 1
      · rw [if_pos (es.mpr d), fromCloser_c (by omega) (by omega) (by omega) hn4 hst4, Option.bind_some]
        simp only [letv]
        rw [put_nI (by omega) (by decide)]
        generalize hX : isum (fun p => if (nx i).testBit p && (DD nx s p + 1 == k + 1) then A4 3 p else 0) 16 = X
        refine ⟨(updA A4 3 (upd (A4 3) i X), nI (i + 1)), rfl, _, rfl, ?_, ?_, fun j a b => (updA_n b).trans (u3 j a b)⟩
        · show TAL nx s (k + 1) (i + 1) (updA A4 3 (upd (A4 3) i X) 3)
          rw [updA_s, ← hX]
          exact tal_upd hT4 hsym (by omega) (by omega) (by omega) d
        · exact (updA_n (by decide)).trans u2
      · rw [if_neg (fun h => d (es.mp h))]
        refine ⟨(A4, nI (i + 1)), rfl, A4, rfl, ⟨fun q hq hc => hT4.1 q hq ?_, fun q hq hc => hT4.2 q hq ?_⟩, u2, u3⟩
        · by_cases e : q = i
          · subst e; omega
          · omega
        · by_cases e : q = i
          · subst e; omega
          · omega
    obtain ⟨A4, i1, i2, i3, i4⟩ := inner
    exact ⟨(A4, nI (k + 1 + 1)), i1, A4, rfl, i2, i3, i4⟩
  refine loop_one (fun n (x : (Nat → Nat → Int32) × Int32) => f1_shortestWays_l7 f (nI s) (nI q) n x.1 x.2) 16
    (fun k x => ∃ A2, x = (A2, nI k) ∧ (∀ q, q < k → A2 3 q = if q = s then 1 else 0) ∧ A2 2 = A1 2 ∧ ∀ j, j ≠ 2 → j ≠ 3 → A2 j = A j)
    (fun a => ∃ r A', a = some (r, A') ∧ (∃ R, WROWS nx s R ∧ r = R q) ∧ ∀ j, j ≠ 2 → j ≠ 3 → A' j = A j) (by decide) ?_ (A1, 0) ⟨A1, rfl, fun q hq => absurd hq (by omega), rfl, fun j a _ => hfr j a⟩
  rintro n k x hk ⟨A2, rfl, p1, p2, p3⟩
  have e7 : ∀ n A2 i, f1_shortestWays_l7 f (nI s) (nI q) (n + 1) A2 i = f1_shortestWays_b7 f (nI s) (nI q) (f1_shortestWays_l7 f (nI s) (nI q) n) A2 i := fun _ _ _ => rfl
  simp only [e7]
  unfold f1_shortestWays_b7
  by_cases h16 : 16 ≤ k
  · left
    have : k = 16 := by omega
    subst this
    rw [if_pos (by decide)]
    refine layers A2 ⟨fun q hq hc => ?_, fun q hq _ => p1 q hq⟩ p2 p3
    rw [p1 q hq]
    have z : ∀ N, isum (fun p => if wcond nx s p q then A2 3 p else 0) N = 0 := fun N => isum_zero (fun p _ => by
      have : wcond nx s p q = false := by
        unfold wcond
        rw [beq_eq_false_iff_ne.mpr (by omega), Bool.and_false]
      rw [this]; rfl)
    rw [z, Int32.add_zero]
  right
  refine ⟨by omega, ?_⟩
  generalize f1_shortestWays_l7 f (nI s) (nI q) n = Kn
  have fin : ∀ v : Int32, v = (if k = s then 1 else 0) → ∃ s' : (Nat → Nat → Int32) × Int32, Kn (updA A2 3 (upd (A2 3) k v)) (nI (k + 1)) = Kn s'.1 s'.2 ∧ ∃ A2, s' = (A2, nI (k + 1)) ∧ (∀ q, q < k + 1 → A2 3 q = if q = s then 1 else 0) ∧ A2 2 = A1 2 ∧ ∀ j, j ≠ 2 → j ≠ 3 → A2 j = A j := by
    intro v hv
    refine ⟨(updA A2 3 (upd (A2 3) k v), nI (k + 1)), rfl, _, rfl, fun q hq => ?_, (updA_n (by decide)).trans p2, fun j a b => (updA_n b).trans (p3 j a b)⟩
    show updA A2 3 (upd (A2 3) k v) 3 q = _
    rw [updA_s]
    by_cases e : q = k
    · subst e; rw [upd_s, hv]
    · rw [upd_n e]; exact p1 q (by omega)
  by_cases e : k = s
  · have := fin 1 (by rw [if_pos e])
    simp (maxSteps := 3000000) (disch := omega) only [litI, letv, eqI, leI, ltI, addI, mulI, subI, clI, addneg, at_nI, put_nI, nI_s, orI, shl1I, ifb0, ifb1, Option.bind_some, gx, ux, Nat.add_zero, Nat.zero_add, Nat.not_lt_zero, false_or, or_false, Nat.mul_zero, Nat.zero_mul, if_neg, e, if_true]
    rw [e] at this
    exact this
  · have := fin 0 (by rw [if_neg e])
    simp (maxSteps := 3000000) (disch := omega) only [litI, letv, eqI, leI, ltI, addI, mulI, subI, clI, addneg, at_nI, put_nI, nI_s, orI, shl1I, ifb0, ifb1, Option.bind_some, gx, ux, Nat.add_zero, Nat.zero_add, Nat.not_lt_zero, false_or, or_false, Nat.mul_zero, Nat.zero_mul, if_neg, e, if_false]
    exact this
theorem ok_ways : OK_ways INV := by
  rintro σf σA fW AW μf μA x1 x2 hI
  have hI0 := hI
  obtain ⟨T, nx, ⟨b1, b2, b3, b4, b5, b6, b7⟩, hS, hT, hW, hK, hL, hX⟩ := hI
  have none : ∃ (r : Int32 × (Nat → Nat → Int32)) (r' : Int32 × (Nat → Nat → Int32)), some ((-1 : Int32), σA 2) = some r ∧ some ((-1 : Int32), μA) = some r' ∧ r.1 = (r'.1) ∧ INV σf (cset σA 2 (r.2)) fW AW μf (r'.2) := ⟨_, _, rfl, rfl, rfl, by rw [cset_id]; exact hI0⟩
  unfold f9_ways f10_ways
  rcases told_c b1 b2 b3 x1 (AB := σA 2) (A := μA) with ⟨h1, h2⟩ | ⟨p, hp, rfl, hTp, u1, u2⟩
  · rw [if_pos h1, if_pos h2]; exact none
  rcases told_c b1 b2 b3 x2 (AB := σA 2) (A := μA) with ⟨h1, h2⟩ | ⟨q, hq, rfl, hTq, v1, v2⟩
  · rw [u1, if_neg n10, if_pos h1, u2, if_neg n10, if_pos h2]; exact none
  rw [u1, if_neg n10, v1, if_neg n10, u2, if_neg n10, v2, if_neg n10]
  obtain ⟨r, A1, e1, ⟨R, hR, hr⟩, f1⟩ := shortest_c (f := σf 2) (A := σA 2) (nx := nx) hp hq (fun p hp => ⟨(b4 p hp).1, (b4 p hp).2.2⟩) b5
  obtain ⟨A2, e2, hst, hR2, f2, -⟩ := lays_st (g := μf) (A := μA) (nx := nx) hp (fun p hp => ⟨(b4 p hp).2.1, (b4 p hp).2.2⟩)
  refine ⟨(r, A1), (A2 47 q, A2), ?_, ?_, ?_, T, nx, ⟨b1, b2, b3, fun p hp => ?_, b5, b6, b7⟩, ?_, ?_, ?_, ?_, ?_, ?_⟩
  · rw [e1]; rfl
  · rw [e2, Option.bind_some, if_neg (nI_in (by omega) (by decide)), gx_nI (by omega)]
  · rw [hr]; exact wrows_one hR hR2 _ q hq rfl
  · show A1 1 p = _ ∧ A2 3 p = _ ∧ _
    rw [f1 1 (by decide) (by decide), f2 3 (by decide) (by decide) (by decide)]
    exact b4 p hp
  · show RS T (σf 3) (σA 3) (A2 0)
    rw [f2 0 (by decide) (by decide) (by decide)]; exact hS
  · show RT (σf 1 1) (μf 8) (σA 1 0) (A2 7)
    rw [f2 7 (by decide) (by decide) (by decide)]; exact hT
  · show RW fW AW (A2 4) (A2 5)
    rw [f2 4 (by decide) (by decide) (by decide), f2 5 (by decide) (by decide) (by decide)]; exact hW
  · show RK T (σf 0 14) (μf 51) (σf 5) (σA 5) (A2 2)
    rw [f2 2 (by decide) (by decide) (by decide)]; exact hK
  · exact LAWR.congr (fL := σf 10) (AL := σA 10) (g := μf) (B := μA) hL rfl (fun _ _ => rfl) rfl (fun j h1 h2 => f2 j (by omega) (by omega) (by omega))
  · show RX (σA 12 0) (A2 43)
    rw [f2 43 (by decide) (by decide) (by decide)]; exact hX
