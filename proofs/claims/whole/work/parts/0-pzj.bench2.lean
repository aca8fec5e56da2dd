def BAb (ρ : Nat → Nat → Nat) (n m a : Nat) : Bool := !anyb (fun b => !(b == a) && !decide (m < 2 * JJ ρ m a b)) n
theorem BAb_iff {ρ : Nat → Nat → Nat} {n m a : Nat} : BAb ρ n m a = true ↔ ∀ b, b < n → b ≠ a → m < 2 * JJ ρ m a b := by
  unfold BAb
  rw [Bool.not_eq_true', ← Bool.not_eq_true, anyb_iff]
  constructor
  · intro h b hb hne
    by_cases q : m < 2 * JJ ρ m a b
    · exact q
    · exact absurd ⟨b, hb, by rw [beq_eq_false_iff_ne.mpr hne, decide_eq_false q]; rfl⟩ h
  · rintro h ⟨b, hb, e⟩
    rw [Bool.and_eq_true, Bool.not_eq_true', Bool.not_eq_true', decide_eq_false_iff_not, beq_eq_false_iff_ne] at e
    exact e.2 (h b hb e.1)
theorem BAb_cnt {ρ : Nat → Nat → Nat} {n m a : Nat} (ha : a < n) : cnt (fun b => !(b == a) && decide (m < 2 * JJ ρ m a b)) n = n - 1 ↔ BAb ρ n m a = true := by
  have all : cnt (fun b => !(b == a)) n = n - 1 := by
    have h1 : cnt (fun _ => true) n = cnt (fun b => !(b == a)) n + 1 := cnt_set (q := a) ha (by simp) rfl (fun i _ hne => by simp [hne])
    have h2 : ∀ n, cnt (fun _ => true) n = n := by
      intro n
      induction n with
      | zero => rfl
      | succ n ih => show cnt (fun _ => true) n + 1 = n + 1; rw [ih]
    rw [h2] at h1
    omega
  constructor
  · intro h
    rw [BAb_iff]
    intro b hb hne
    by_cases q : m < 2 * JJ ρ m a b
    · exact q
    · exfalso
      have h1 : cnt (fun x => if x = b then true else (!(x == a) && decide (m < 2 * JJ ρ m a x))) n = cnt (fun b => !(b == a) && decide (m < 2 * JJ ρ m a b)) n + 1 := cnt_set (q := b) hb (by show (!(b == a) && decide (m < 2 * JJ ρ m a b)) = false; rw [decide_eq_false q, Bool.and_false]) (if_pos rfl) (fun i _ hne => if_neg hne)
      have h2 : cnt (fun x => if x = b then true else (!(x == a) && decide (m < 2 * JJ ρ m a x))) n < n := cnt_full (q := a) ha (by show (if a = b then true else (!(a == a) && decide (m < 2 * JJ ρ m a a))) = false; rw [if_neg (fun h => hne h.symm)]; simp)
      omega
  · intro h
    rw [BAb_iff] at h
    rw [← all]
    refine cnt_congr (fun i hi => ?_)
    by_cases e : i = a
    · subst e; simp
    · rw [decide_eq_true (h i hi e), Bool.and_true]
theorem JJ_sum {ρ : Nat → Nat → Nat} {a b : Nat} : ∀ m, JJ ρ m a b + JJ ρ m b a ≤ m := by
  intro m
  induction m with
  | zero => exact Nat.le_refl _
  | succ m ih =>
    show JJ ρ m a b + (if decide (ρ m a < ρ m b) then 1 else 0) + (JJ ρ m b a + (if decide (ρ m b < ρ m a) then 1 else 0)) ≤ m + 1
    by_cases q : ρ m a < ρ m b
    · rw [decide_eq_true q, decide_eq_false (show ¬ ρ m b < ρ m a by omega)]
      simp only [if_true, Bool.false_eq_true, if_false]
      omega
    · rw [decide_eq_false q]
      simp only [Bool.false_eq_true, if_false]
      split <;> omega
theorem JJ_full {ρ : Nat → Nat → Nat} {a b : Nat} : ∀ m, (∀ j, j < m → ρ j a ≠ ρ j b) → JJ ρ m a b + JJ ρ m b a = m := by
  intro m
  induction m with
  | zero => intro _; rfl
  | succ m ih =>
    intro h
    have h1 := ih (fun j hj => h j (by omega))
    have h2 := h m (by omega)
    show JJ ρ m a b + (if decide (ρ m a < ρ m b) then 1 else 0) + (JJ ρ m b a + (if decide (ρ m b < ρ m a) then 1 else 0)) = m + 1
    by_cases q : ρ m a < ρ m b
    · rw [decide_eq_true q, decide_eq_false (show ¬ ρ m b < ρ m a by omega)]
      simp only [if_true, Bool.false_eq_true, if_false]
      omega
    · rw [decide_eq_false q, decide_eq_true (show ρ m b < ρ m a by omega)]
      simp only [if_true, Bool.false_eq_true, if_false]
      omega
/-- who beats all others: one at most -/
def WINS (ρ : Nat → Nat → Nat) (n m k : Nat) (x : Int32) : Prop := (x = -2 ∧ ∀ a, a < k → ¬ BAb ρ n m a = true) ∨ ∃ a, a < k ∧ BAb ρ n m a = true ∧ x = nI a
theorem wins_one {ρ : Nat → Nat → Nat} {n m a a' : Nat} (ha : a < n) (ha' : a' < n) (h : BAb ρ n m a = true) (h' : BAb ρ n m a' = true) : a = a' := by
  by_cases e : a = a'
  · exact e
  · have h1 := BAb_iff.mp h a' ha' (fun h => e h.symm)
    have h2 := BAb_iff.mp h' a ha e
    have := JJ_sum (ρ := ρ) (a := a) (b := a') m
    omega
def SS (ρ : Nat → Nat → Nat) (m a : Nat) : Nat := tsum (fun j => ρ j a) m
/-- the first of the fewest places -/
def FEW (ρ : Nat → Nat → Nat) (m k w : Nat) : Prop := (∀ a, a < k → SS ρ m w ≤ SS ρ m a) ∧ ∀ a, a < w → SS ρ m w < SS ρ m a
theorem SS_le {n m : Nat} {ρ : Nat → Nat → Nat} {X Y : Nat → Int32} (hn : n ≤ 6) (hR : RNK n m 0 0 ρ X Y) {a : Nat} (ha : a < n) : ∀ k, k ≤ m → tsum (fun j => ρ j a) k ≤ 6 * k := by
  intro k
  induction k with
  | zero => intro _; exact Nat.le_refl _
  | succ k ih =>
    intro hk
    have := (hR.1 k a (by omega) ha).2.2
    have := ih (by omega)
    show tsum (fun j => ρ j a) k + ρ k a ≤ _
    omega
theorem places_c {g : Nat → Int32} {B : Nat → Nat → Int32} {n m a : Nat} {ρ : Nat → Nat → Nat} {X : Nat → Int32} (hn : n ≤ 6) (hm : m ≤ 9) (ha : a < n) (hR : RNK n m 0 0 ρ X (B 50)) : f10_placesOf g B (nI a) (nI m) = some (nI (SS ρ m a)) := by
  unfold f10_placesOf
  refine loop_one (fun k (s : Int32 × Int32) => f10_placesOf_l5 g B (nI a) (nI m) k s.1 s.2) m (fun j s => s = (nI (tsum (fun j => ρ j a) j), nI j)) (fun P => P = some (nI (SS ρ m a))) (by omega) ?_ (0, 0) rfl
  rintro k j s hj rfl
  have ea : ∀ k x i, f10_placesOf_l5 g B (nI a) (nI m) (k + 1) x i = f10_placesOf_b5 g B (nI a) (nI m) (f10_placesOf_l5 g B (nI a) (nI m) k) x i := fun _ _ _ => rfl
  simp only [ea]
  unfold f10_placesOf_b5
  by_cases h : m ≤ j
  · have : j = m := by omega
    subst this
    left
    rw [if_pos (show nI j ≤ nI j by rw [leI (by omega) (by omega)]; omega)]
    rfl
  right
  obtain ⟨-, x1, x3⟩ := hR.1 j a (by omega) ha
  have i2 : 6 * nI j + nI a = nI (6 * j + a) := by
    rw [show (6 : Int32) = nI 6 from rfl, mulI, addI]
  rw [if_neg (show ¬ nI m ≤ nI j by rw [leI (by omega) (by omega)]; exact h), i2, if_neg (nI_in (show 6 * j + a < 54 by omega) (by decide)), gx_nI (by omega), x1, addI, nI_s]
  exact ⟨by omega, (_, _), rfl, rfl⟩
theorem all9_c {f : Nat → Int32} {A : Nat → Nat → Int32} {n m : Nat} {ρ : Nat → Nat → Nat} {Y : Nat → Int32} (hn0 : 2 ≤ n) (hn : n ≤ 6) (hm : m ≤ 9) (hR : RNK n m 0 0 ρ (A 9) Y) : ∃ x, f9_beatsAllOthers f A (nI n) (nI m) = some x ∧ WINS ρ n m n x := by
  unfold f9_beatsAllOthers
  refine loop_one (fun k (s : Int32) => f9_beatsAllOthers_l2 f A (nI n) (nI m) k s) n (fun a s => s = nI a ∧ ∀ a', a' < a → ¬ BAb ρ n m a' = true) (fun P => ∃ x, P = some x ∧ WINS ρ n m n x) (by omega) ?_ 0 ⟨rfl, fun a h => absurd h (by omega)⟩
  rintro k a s ha ⟨rfl, hno⟩
  have ea : ∀ k i, f9_beatsAllOthers_l2 f A (nI n) (nI m) (k + 1) i = f9_beatsAllOthers_b2 f A (nI n) (nI m) (f9_beatsAllOthers_l2 f A (nI n) (nI m) k) i := fun _ _ => rfl
  simp only [ea]
  generalize f9_beatsAllOthers_l2 f A (nI n) (nI m) k = Kn
  unfold f9_beatsAllOthers_b2
  by_cases h : n ≤ a
  · have : a = n := by omega
    subst this
    left
    rw [if_pos (show nI a ≤ nI a by rw [leI (by omega) (by omega)]; omega)]
    exact ⟨-2, rfl, Or.inl ⟨rfl, hno⟩⟩
  rw [if_neg (show ¬ nI n ≤ nI a by rw [leI (by omega) (by omega)]; exact h)]
  have inner : f9_beatsAllOthers_l13 f A (nI n) (nI m) Kn NF (nI a) 0 0 = if BAb ρ n m a = true then some (nI a) else Kn (nI (a + 1)) := by
    refine loop_one (fun k (s : Int32 × Int32) => f9_beatsAllOthers_l13 f A (nI n) (nI m) Kn k (nI a) s.1 s.2) n (fun b s => s = (nI (cnt (fun b => !(b == a) && decide (m < 2 * JJ ρ m a b)) b), nI b)) (fun P => P = if BAb ρ n m a = true then some (nI a) else Kn (nI (a + 1))) (by omega) ?_ (0, 0) rfl
    rintro k b s hb rfl
    have eb : ∀ k x i, f9_beatsAllOthers_l13 f A (nI n) (nI m) Kn (k + 1) (nI a) x i = f9_beatsAllOthers_b13 f A (nI n) (nI m) Kn (f9_beatsAllOthers_l13 f A (nI n) (nI m) Kn k) (nI a) x i := fun _ _ _ => rfl
    simp only [eb]
    unfold f9_beatsAllOthers_b13
    have cl := cnt_le (fun b => !(b == a) && decide (m < 2 * JJ ρ m a b)) b
    by_cases hbn : n ≤ b
    · have : b = n := by omega
      subst this
      left
      rw [if_pos (show nI b ≤ nI b by rw [leI (by omega) (by omega)]; omega), show (1 : Int32) = nI 1 from rfl, subI (show 1 ≤ b by omega), addI]
      have bc := BAb_cnt (ρ := ρ) (n := b) (m := m) (a := a) (by omega)
      by_cases q : BAb ρ b m a = true
      · rw [if_pos q, bc.mpr q, if_pos rfl]
      · rw [if_neg q, if_neg (show ¬ nI _ = nI (b - 1) by rw [eqI (by omega) (by omega)]; exact fun h => q (bc.mp h))]
    right
    refine ⟨by omega, ?_⟩
    rw [if_neg (show ¬ nI n ≤ nI b by rw [leI (by omega) (by omega)]; exact hbn), nI_s]
    have ec : cnt (fun b => !(b == a) && decide (m < 2 * JJ ρ m a b)) (b + 1) = cnt (fun b => !(b == a) && decide (m < 2 * JJ ρ m a b)) b + if (!(b == a) && decide (m < 2 * JJ ρ m a b)) then 1 else 0 := rfl
    by_cases e : a = b
    · subst e
      rw [if_pos rfl]
      refine ⟨(_, _), rfl, ?_⟩
      have e0 : (!(a == a) && decide (m < 2 * JJ ρ m a a)) = false := by simp
      rw [ec, e0]
      rfl
    · rw [if_neg (show ¬ nI a = nI b by rw [eqI (by omega) (by omega)]; exact e), judges_c hn hm (by omega) (by omega) hR, Option.bind_some, show (2 : Int32) = nI 2 from rfl, mulI]
      have jl := cnt_le (fun j => decide (ρ j a < ρ j b)) m
      have jl' : JJ ρ m a b ≤ m := jl
      have eb2 : (!(b == a)) = true := by simp [show ¬ b = a from fun h => e h.symm]
      by_cases q : 2 * JJ ρ m a b ≤ m
      · rw [if_pos (show nI (2 * JJ ρ m a b) ≤ nI m by rw [leI (by omega) (by omega)]; exact q)]
        refine ⟨(_, _), rfl, ?_⟩
        rw [ec, eb2, Bool.true_and, decide_eq_false (by omega)]
        rfl
      · rw [if_neg (show ¬ nI (2 * JJ ρ m a b) ≤ nI m by rw [leI (by omega) (by omega)]; exact q), nI_s]
        refine ⟨(_, _), rfl, ?_⟩
        rw [ec, eb2, Bool.true_and, decide_eq_true (by omega)]
        rfl
  rw [inner]
  by_cases q : BAb ρ n m a = true
  · left
    rw [if_pos q]
    exact ⟨nI a, rfl, Or.inr ⟨a, by omega, q, rfl⟩⟩
  · right
    rw [if_neg q]
    refine ⟨by omega, nI (a + 1), rfl, rfl, fun a' h' => ?_⟩
    by_cases e : a' = a
    · subst e; exact q
    · exact hno a' (by omega)
theorem few9_c {f : Nat → Int32} {A : Nat → Nat → Int32} {n m : Nat} {ρ : Nat → Nat → Nat} {Y : Nat → Int32} (hn0 : 2 ≤ n) (hn : n ≤ 6) (hm : m ≤ 9) (hR : RNK n m 0 0 ρ (A 9) Y) : ∃ w, w < n ∧ f9_fewestPlaces f A (nI n) (nI m) = some (nI w) ∧ FEW ρ m n w := by
  unfold f9_fewestPlaces
  refine loop_one (fun k (s : Int32 × Int32 × Int32) => f9_fewestPlaces_l8 f A (nI n) (nI m) k s.1 s.2.1 s.2.2) n (fun a s => (a = 0 ∧ s = (-1, 0, 0)) ∨ ∃ w, w < a ∧ s = (nI w, nI (SS ρ m w), nI a) ∧ FEW ρ m a w) (fun P => ∃ w, w < n ∧ P = some (nI w) ∧ FEW ρ m n w) (by omega) ?_ (-1, 0, 0) (Or.inl ⟨rfl, rfl⟩)
  rintro k a s ha hP
  have ea : ∀ k x y i, f9_fewestPlaces_l8 f A (nI n) (nI m) (k + 1) x y i = f9_fewestPlaces_b8 f A (nI n) (nI m) (f9_fewestPlaces_l8 f A (nI n) (nI m) k) x y i := fun _ _ _ _ => rfl
  simp only [ea]
  generalize f9_fewestPlaces_l8 f A (nI n) (nI m) k = Kn
  have inner : ∀ x y, a < n → f9_fewestPlaces_l20 f A (nI n) (nI m) Kn NF x y (nI a) 0 0 = if x = -1 then Kn (nI a) (nI (SS ρ m a)) (nI (a + 1)) else if y ≤ nI (SS ρ m a) then Kn x y (nI (a + 1)) else Kn (nI a) (nI (SS ρ m a)) (nI (a + 1)) := by
    intro x y han
    refine loop_one (fun k (s : Int32 × Int32) => f9_fewestPlaces_l20 f A (nI n) (nI m) Kn k x y (nI a) s.1 s.2) m (fun j s => s = (nI (tsum (fun j => ρ j a) j), nI j)) (fun P => P = if x = -1 then Kn (nI a) (nI (SS ρ m a)) (nI (a + 1)) else if y ≤ nI (SS ρ m a) then Kn x y (nI (a + 1)) else Kn (nI a) (nI (SS ρ m a)) (nI (a + 1))) (by omega) ?_ (0, 0) rfl
    rintro k j s hj rfl
    have eb : ∀ k u i, f9_fewestPlaces_l20 f A (nI n) (nI m) Kn (k + 1) x y (nI a) u i = f9_fewestPlaces_b20 f A (nI n) (nI m) Kn (f9_fewestPlaces_l20 f A (nI n) (nI m) Kn k) x y (nI a) u i := fun _ _ _ => rfl
    simp only [eb]
    unfold f9_fewestPlaces_b20
    by_cases h : m ≤ j
    · have : j = m := by omega
      subst this
      left
      rw [if_pos (show nI j ≤ nI j by rw [leI (by omega) (by omega)]; omega), nI_s]
      rfl
    right
    obtain ⟨x1, -, x3⟩ := hR.1 j a (by omega) han
    have i1 : nI j * 6 + nI a = nI (6 * j + a) := by
      rw [show (6 : Int32) = nI 6 from rfl, mulI, addI, Nat.mul_comm j 6]
    rw [if_neg (show ¬ nI m ≤ nI j by rw [leI (by omega) (by omega)]; exact h), i1, at_nI (by omega) (by decide), x1, addI, nI_s]
    exact ⟨by omega, (_, _), rfl, rfl⟩
  unfold f9_fewestPlaces_b8
  rcases hP with ⟨rfl, rfl⟩ | ⟨w, hw, rfl, hF⟩
  · right
    refine ⟨by omega, ?_⟩
    have i0 := inner (-1) 0 (by omega)
    rw [if_pos rfl] at i0
    have i0' : f9_fewestPlaces_l20 f A (nI n) (nI m) Kn NF (-1) 0 0 0 0 = Kn (nI 0) (nI (SS ρ m 0)) (nI 1) := i0
    simp only []
    rw [if_neg (show ¬ nI n ≤ 0 by rw [show (0 : Int32) = nI 0 from rfl, leI (by omega) (by omega)]; omega), i0']
    have f0 : FEW ρ m 1 0 := ⟨fun a ha => by rw [show a = 0 by omega]; exact Nat.le_refl _, fun a ha => absurd ha (by omega)⟩
    exact ⟨(nI 0, nI (SS ρ m 0), nI 1), rfl, Or.inr ⟨0, by omega, rfl, f0⟩⟩
  · simp only []
    by_cases h : n ≤ a
    · have : a = n := by omega
      subst this
      left
      rw [if_pos (show nI a ≤ nI a by rw [leI (by omega) (by omega)]; omega)]
      exact ⟨w, hw, rfl, hF⟩
    right
    refine ⟨by omega, ?_⟩
    have b1 := SS_le hn hR (a := w) (by omega) m (Nat.le_refl _)
    have b2 := SS_le hn hR (a := a) (by omega) m (Nat.le_refl _)
    have b1' : SS ρ m w ≤ 6 * m := b1
    have b2' : SS ρ m a ≤ 6 * m := b2
    rw [if_neg (show ¬ nI n ≤ nI a by rw [leI (by omega) (by omega)]; exact h), inner _ _ (by omega), if_neg (show ¬ nI w = -1 by rw [show (-1 : Int32) = -nI 1 from rfl, eq_neg (by omega) (by omega) (by omega)]; exact not_false)]
    by_cases q : SS ρ m w ≤ SS ρ m a
    · rw [if_pos (show nI (SS ρ m w) ≤ nI (SS ρ m a) by rw [leI (by omega) (by omega)]; exact q)]
      refine ⟨(_, _, _), rfl, Or.inr ⟨w, by omega, rfl, fun a' h' => ?_, hF.2⟩⟩
      by_cases e : a' = a
      · subst e; exact q
      · exact hF.1 a' (by omega)
    · rw [if_neg (show ¬ nI (SS ρ m w) ≤ nI (SS ρ m a) by rw [leI (by omega) (by omega)]; exact q)]
      refine ⟨(_, _, _), rfl, Or.inr ⟨a, by omega, rfl, fun a' h' => ?_, fun a' h' => ?_⟩⟩
      · by_cases e : a' = a
        · subst e; exact Nat.le_refl _
        · have := hF.1 a' (by omega); omega
      · have := hF.1 a' h'; omega
def EE (ρ : Nat → Nat → Nat) (m a b : Nat) : Bool := decide (2 * JJ ρ m a b = m)
theorem twos9_c {f : Nat → Int32} {A : Nat → Nat → Int32} {n m : Nat} {ρ : Nat → Nat → Nat} {Y : Nat → Int32} (hn : n ≤ 6) (hm : m ≤ 9) (hR : RNK n m 0 0 ρ (A 9) Y) : f9_twosAlike f A (nI n) (nI m) = some (nI (tsum (rowc (EE ρ m) n) n)) := by
  unfold f9_twosAlike
  refine loop_one (fun k (s : Int32 × Int32) => f9_twosAlike_l5 f A (nI n) (nI m) k s.1 s.2) n (fun a s => s = (nI (tsum (rowc (EE ρ m) n) a), nI a)) (fun P => P = some (nI (tsum (rowc (EE ρ m) n) n))) (by omega) ?_ (0, 0) rfl
  rintro k a s ha rfl
  have ea : ∀ k x i, f9_twosAlike_l5 f A (nI n) (nI m) (k + 1) x i = f9_twosAlike_b5 f A (nI n) (nI m) (f9_twosAlike_l5 f A (nI n) (nI m) k) x i := fun _ _ _ => rfl
  simp only [ea]
  generalize f9_twosAlike_l5 f A (nI n) (nI m) k = Kn
  unfold f9_twosAlike_b5
  by_cases h : n ≤ a
  · have : a = n := by omega
    subst this
    left
    rw [if_pos (show nI a ≤ nI a by rw [leI (by omega) (by omega)]; omega)]
  right
  refine ⟨by omega, ?_⟩
  rw [if_neg (show ¬ nI n ≤ nI a by rw [leI (by omega) (by omega)]; exact h), nI_s]
  have inner : f9_twosAlike_l17 f A (nI n) (nI m) Kn NF (nI (tsum (rowc (EE ρ m) n) a)) (nI a) (nI (a + 1)) = Kn (nI (tsum (rowc (EE ρ m) n) (a + 1))) (nI (a + 1)) := by
    refine loop_one (fun k (s : Int32 × Int32) => f9_twosAlike_l17 f A (nI n) (nI m) Kn k s.1 (nI a) s.2) (n - 1 - a) (fun i s => s = (nI (tsum (rowc (EE ρ m) n) a + cnt (fun q => decide (a < q) && EE ρ m a q) (a + 1 + i)), nI (a + 1 + i))) (fun P => P = Kn (nI (tsum (rowc (EE ρ m) n) (a + 1))) (nI (a + 1))) (by omega) ?_ (_, _) ?_
    · rintro k i s hi rfl
      have eb : ∀ k x i, f9_twosAlike_l17 f A (nI n) (nI m) Kn (k + 1) x (nI a) i = f9_twosAlike_b17 f A (nI n) (nI m) Kn (f9_twosAlike_l17 f A (nI n) (nI m) Kn k) x (nI a) i := fun _ _ _ => rfl
      simp only [eb]
      unfold f9_twosAlike_b17
      by_cases h2 : n ≤ a + 1 + i
      · have e : a + 1 + i = n := by omega
        rw [e]
        left
        rw [if_pos (show nI n ≤ nI n by rw [leI (by omega) (by omega)]; omega), nI_s]
        rfl
      right
      refine ⟨by omega, ?_⟩
      have jl' : JJ ρ m a (a + 1 + i) ≤ m := cnt_le _ m
      rw [if_neg (show ¬ nI n ≤ nI (a + 1 + i) by rw [leI (by omega) (by omega)]; exact h2), judges_c hn hm (by omega) (by omega) hR, Option.bind_some, show (2 : Int32) = nI 2 from rfl, mulI, nI_s, nI_s]
      have ec : cnt (fun q => decide (a < q) && EE ρ m a q) (a + 1 + i + 1) = cnt (fun q => decide (a < q) && EE ρ m a q) (a + 1 + i) + if EE ρ m a (a + 1 + i) then 1 else 0 := by
        show cnt _ (a + 1 + i) + (if (decide (a < a + 1 + i) && EE ρ m a (a + 1 + i)) then 1 else 0) = _
        rw [decide_eq_true (by omega), Bool.true_and]
      rw [show a + 1 + (i + 1) = a + 1 + i + 1 from rfl, ec]
      unfold EE
      by_cases q : 2 * JJ ρ m a (a + 1 + i) = m
      · rw [if_pos (show nI (2 * JJ ρ m a (a + 1 + i)) = nI m by rw [q]), decide_eq_true q]
        exact ⟨(_, _), rfl, rfl⟩
      · rw [if_neg (show ¬ nI (2 * JJ ρ m a (a + 1 + i)) = nI m by rw [eqI (by omega) (by omega)]; exact q), decide_eq_false q]
        exact ⟨(_, _), rfl, rfl⟩
    · have : cnt (fun q => decide (a < q) && EE ρ m a q) (a + 1 + 0) = 0 := cnt_zero (fun i hi => by rw [decide_eq_false (by omega), Bool.false_and])
      rw [this]; rfl
  rw [inner]
  exact ⟨(_, _), rfl, rfl⟩
theorem tri_same {E : Nat → Nat → Bool} {m : Nat} (hs : ∀ a b, a < m → b < m → a ≠ b → E a b = E b a) : ∀ n, n ≤ m → tsum (rowc E n) n = tsum (fun a => cnt (E a) a) n := by
  intro n
  induction n with
  | zero => intro _; rfl
  | succ n ih =>
    intro hn
    have e2 : tsum (rowc E (n + 1)) n = tsum (rowc E n) n + cnt (fun p => E p n) n := by
      have : tsum (rowc E (n + 1)) n = tsum (fun p => rowc E n p + (if E p n then 1 else 0)) n := by
        refine tsum_congr (fun p hp => ?_)
        show cnt _ n + (if (decide (p < n) && E p n) then 1 else 0) = rowc E n p + _
        rw [decide_eq_true hp, Bool.true_and]
        rfl
      rw [this, tsum_add, tsum_cnt]
    have e3 : rowc E (n + 1) n = 0 := cnt_zero (fun i hi => by rw [decide_eq_false (by omega), Bool.false_and])
    show tsum (rowc E (n + 1)) n + rowc E (n + 1) n = tsum (fun a => cnt (E a) a) n + cnt (E n) n
    rw [e2, e3, ih (by omega), Nat.add_zero, cnt_congr (fun i hi => hs i n (by omega) (by omega) (by omega))]
