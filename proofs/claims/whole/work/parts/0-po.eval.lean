/-! THE LAW is asked: the class's orders and the reference's codes side by side -/
theorem addneg {a b : Nat} (h : b ≤ a) : nI a + -nI b = nI (a - b) := by
  rw [← subI h]
  exact (Int32.sub_eq_add_neg _ _).symm
def EV (op vl : Nat → Nat) (X : Nat → Int32) (A B : Nat → Nat → Int32) (lo hi : Nat) : Prop :=
  (∀ j, lo ≤ j → j < hi → op j ≤ 12 ∧ vl j < 1048576 ∧ A 0 j = nI (COP (op j)) ∧ A 1 j = nI (vl j) ∧ B 24 j = nI (1048576 * op j + vl j)) ∧ ∀ i, i < 8 → X i = B 30 i
theorem EV.congr {op vl : Nat → Nat} {X : Nat → Int32} {A B A' B' : Nat → Nat → Int32} {lo hi lo' hi' : Nat} (h : EV op vl X A B lo hi) (hA : ∀ j, j ≠ 6 → A' j = A j) (hB : ∀ j, j ≠ 29 → B' j = B j) (h1 : lo ≤ lo') (h2 : hi' ≤ hi) : EV op vl X A' B' lo' hi' := by
  refine ⟨fun j a b => ?_, fun i hi => ?_⟩
  · rw [hA 0 (by decide), hA 1 (by decide), hB 24 (by decide)]
    exact h.1 j (by omega) (by omega)
  · rw [hB 30 (by decide)]
    exact h.2 i hi
theorem WF_lt {op vl : Nat → Nat} : ∀ N fl a b, WF op vl N fl a b → a < b := by
  intro N
  induction N with
  | zero => intro fl a b h; exact h.elim
  | succ N ih =>
    intro fl a b h
    cases fl with
    | true =>
      rcases h with ⟨h1, _⟩ | ⟨m, h1, h2, _, _, _⟩
      · omega
      · have := ih _ _ _ h1
        have := ih _ _ _ h2
        omega
    | false =>
      rcases h with ⟨m, h1, h2, _, _, _⟩ | ⟨h1, _, _⟩ | ⟨m, h1, _, _, h2⟩
      · have := ih _ _ _ h1
        have := ih _ _ _ h2
        omega
      · have := ih _ _ _ h1
        omega
      · have := ih _ _ _ h1
        have := ih _ _ _ h2
        omega
theorem ev_push {X g f : Nat → Int32} {e h a t o v k m : Nat} {p1 : Int32} {A B : Nat → Nat → Int32} (ha : a < e) (he : e ≤ 240) (ht : t < 240) (hh : h < 240) (hf : f 8 = 0) (hA : A 0 a = nI (COP o)) (hv : A 1 a = nI v) (hB : B 24 a = nI (1048576 * o + v)) (ho : o = 0 ∨ o = 1 ∧ v < 8) (hvl : v < 1048576) (hX : ∀ i, i < 8 → X i = B 30 i) :
    ∃ x, f2_reckoned_l14 8 X p1 (nI e) (k + 1) A f (nI h) (nI a) (nI t) = f2_reckoned_l14 8 X p1 (nI e) k (updA A 6 (upd (A 6) h x)) f (nI (h + 1)) (nI (a + 1)) (nI (t + 1)) ∧ f10_comesTo_l16 g p1 (nI e) (m + 1) B (nI h) (nI 0) (nI a) = f10_comesTo_l16 g p1 (nI e) m (updA B 29 (upd (B 29) h x)) (nI (h + 1)) (nI 0) (nI (a + 1)) := by
  rcases ho with rfl | ⟨rfl, hv8⟩
  · have hA' : A 0 a = nI 1 := hA
    simp (disch := omega) only [f2_reckoned_l14, f2_reckoned_b14, f2_reckoned_b85, f2_reckoned_b108, f10_comesTo_l16, f10_comesTo_b16, f10_comesTo_b63, hf, hA', hv, hB, litI, letv, eqI, leI, ltI, addI, mulI, subI, clI, addneg, at_nI, put_nI, nI_s, orI, shl1I, ifb0, ifb1, Option.bind_some, gx, ux, Nat.add_zero, Nat.zero_add, Nat.not_lt_zero, false_or, or_false, Nat.mul_zero, Nat.zero_mul, divI, irmI, if_neg, if_pos, if_true]
    refine ⟨nI v, rfl, ?_⟩
    rw [show v % 1048576 = v by omega]
  · have hA' : A 0 a = nI 2 := hA
    simp (disch := omega) only [f2_reckoned_l14, f2_reckoned_b14, f2_reckoned_b85, f2_reckoned_b108, f10_comesTo_l16, f10_comesTo_b16, f10_comesTo_b63, hf, hA', hv, hB, litI, letv, eqI, leI, ltI, addI, mulI, subI, clI, addneg, at_nI, put_nI, nI_s, orI, shl1I, ifb0, ifb1, Option.bind_some, gx, ux, Nat.add_zero, Nat.zero_add, Nat.not_lt_zero, false_or, or_false, Nat.mul_zero, Nat.zero_mul, divI, irmI, if_neg, if_pos, if_true]
    refine ⟨X v, rfl, ?_⟩
    rw [show (1048576 * 1 + v) % 1048576 = v by omega, hX v hv8]
theorem ev_not {X g f : Nat → Int32} {e h a t v k m : Nat} {p1 : Int32} {A B : Nat → Nat → Int32} (ha : a < e) (he : e ≤ 240) (ht : t < 240) (hh : h < 240) (hf : f 8 = 0) (hA : A 0 a = nI (COP 10)) (hB : B 24 a = nI (1048576 * 10 + v)) (hvl : v < 1048576) {x : Int32} (hx : x = 0 ∨ x = 1) (h1 : A 6 h = x) (h2 : B 29 h = x) :
    ∃ y, (y = 0 ∨ y = 1) ∧ f2_reckoned_l14 8 X p1 (nI e) (k + 1) A f (nI (h + 1)) (nI a) (nI t) = f2_reckoned_l14 8 X p1 (nI e) k (updA A 6 (upd (A 6) h y)) f (nI (h + 1)) (nI (a + 1)) (nI (t + 1)) ∧ f10_comesTo_l16 g p1 (nI e) (m + 1) B (nI (h + 1)) (nI 0) (nI a) = f10_comesTo_l16 g p1 (nI e) m (updA B 29 (upd (B 29) h y)) (nI (h + 1)) (nI 0) (nI (a + 1)) := by
  have hA' : A 0 a = nI 3 := hA
  simp (disch := omega) only [f2_reckoned_l14, f2_reckoned_b14, f10_comesTo_l16, f10_comesTo_b16, hf, hA', hB, litI, letv, eqI, leI, ltI, addI, mulI, subI, clI, addneg, at_nI, put_nI, nI_s, orI, shl1I, ifb0, ifb1, Option.bind_some, gx, ux, Nat.add_zero, Nat.zero_add, Nat.not_lt_zero, false_or, or_false, Nat.mul_zero, Nat.zero_mul, divI, irmI, if_neg, if_pos, if_true, Nat.add_sub_cancel, h1, h2]
  rcases hx with rfl | rfl
  · refine ⟨1, Or.inr rfl, rfl, rfl⟩
  · refine ⟨0, Or.inl rfl, rfl, rfl⟩
theorem jn_same {f : Nat → Int32} {A : Nat → Nat → Int32} {o : Nat} (h1 : 2 ≤ o) (h2 : o ≤ 9) (x y : Int32) (hn : ¬ ((o = 5 ∨ o = 6) ∧ y = nI 0)) : ∃ v, f2_joined f A (nI (COP o)) x y = some (v, f) ∧ f10_reckon (nI o) x y = some v ∧ (7 ≤ o → v = 0 ∨ v = 1) := by
  have hc : ∀ c : Prop, ∀ z : Option (Int32 × (Nat → Int32)), ∀ [Decidable c], (if c then z else z) = z := fun c z _ => ite_self z
  rcases (show o = 2 ∨ o = 3 ∨ o = 4 ∨ o = 5 ∨ o = 6 ∨ o = 7 ∨ o = 8 ∨ o = 9 by omega) with rfl | rfl | rfl | rfl | rfl | rfl | rfl | rfl
  · show ∃ v, f2_joined f A (nI 43) x y = _ ∧ _
    simp (disch := omega) only [f2_joined, f2_joined_b23, f10_reckon, litI, letv, eqI, leI, ltI, addI, mulI, subI, clI, addneg, at_nI, put_nI, nI_s, orI, shl1I, ifb0, ifb1, Option.bind_some, gx, ux, Nat.add_zero, Nat.zero_add, Nat.not_lt_zero, false_or, or_false, Nat.mul_zero, Nat.zero_mul, if_neg, if_pos, ite_self]
    exact ⟨_, rfl, rfl, fun h => absurd h (by decide)⟩
  · show ∃ v, f2_joined f A (nI 45) x y = _ ∧ _
    simp (disch := omega) only [f2_joined, f2_joined_b23, f10_reckon, litI, letv, eqI, leI, ltI, addI, mulI, subI, clI, addneg, at_nI, put_nI, nI_s, orI, shl1I, ifb0, ifb1, Option.bind_some, gx, ux, Nat.add_zero, Nat.zero_add, Nat.not_lt_zero, false_or, or_false, Nat.mul_zero, Nat.zero_mul, if_neg, if_pos, ite_self]
    exact ⟨_, rfl, rfl, fun h => absurd h (by decide)⟩
  · show ∃ v, f2_joined f A (nI 42) x y = _ ∧ _
    simp (disch := omega) only [f2_joined, f2_joined_b23, f10_reckon, litI, letv, eqI, leI, ltI, addI, mulI, subI, clI, addneg, at_nI, put_nI, nI_s, orI, shl1I, ifb0, ifb1, Option.bind_some, gx, ux, Nat.add_zero, Nat.zero_add, Nat.not_lt_zero, false_or, or_false, Nat.mul_zero, Nat.zero_mul, if_neg, if_pos, ite_self]
    exact ⟨_, rfl, rfl, fun h => absurd h (by decide)⟩
  · have hy : ¬ y = nI 0 := fun h => hn ⟨Or.inl rfl, h⟩
    show ∃ v, f2_joined f A (nI 47) x y = _ ∧ _
    simp (disch := omega) only [f2_joined, f2_joined_b23, f10_reckon, litI, letv, eqI, leI, ltI, addI, mulI, subI, clI, addneg, at_nI, put_nI, nI_s, orI, shl1I, ifb0, ifb1, Option.bind_some, gx, ux, Nat.add_zero, Nat.zero_add, Nat.not_lt_zero, false_or, or_false, Nat.mul_zero, Nat.zero_mul, if_neg hy, if_neg, if_pos, ite_self]
    exact ⟨_, rfl, rfl, fun h => absurd h (by decide)⟩
  · have hy : ¬ y = nI 0 := fun h => hn ⟨Or.inr rfl, h⟩
    show ∃ v, f2_joined f A (nI 37) x y = _ ∧ _
    simp (disch := omega) only [f2_joined, f2_joined_b23, f10_reckon, litI, letv, eqI, leI, ltI, addI, mulI, subI, clI, addneg, at_nI, put_nI, nI_s, orI, shl1I, ifb0, ifb1, Option.bind_some, gx, ux, Nat.add_zero, Nat.zero_add, Nat.not_lt_zero, false_or, or_false, Nat.mul_zero, Nat.zero_mul, if_neg hy, if_neg, if_pos, ite_self]
    exact ⟨_, rfl, rfl, fun h => absurd h (by decide)⟩
  · show ∃ v, f2_joined f A (nI 60) x y = _ ∧ _
    simp (disch := omega) only [f2_joined, f2_joined_b23, f10_reckon, litI, letv, eqI, leI, ltI, addI, mulI, subI, clI, addneg, at_nI, put_nI, nI_s, orI, shl1I, ifb0, ifb1, Option.bind_some, gx, ux, Nat.add_zero, Nat.zero_add, Nat.not_lt_zero, false_or, or_false, Nat.mul_zero, Nat.zero_mul, if_neg, if_pos, ite_self]
    by_cases q : y ≤ x
    · simp (disch := omega) only [if_pos q]; exact ⟨_, rfl, rfl, fun _ => Or.inl rfl⟩
    · simp (disch := omega) only [if_neg q]; exact ⟨_, rfl, rfl, fun _ => Or.inr rfl⟩
  · show ∃ v, f2_joined f A (nI 62) x y = _ ∧ _
    simp (disch := omega) only [f2_joined, f2_joined_b23, f10_reckon, litI, letv, eqI, leI, ltI, addI, mulI, subI, clI, addneg, at_nI, put_nI, nI_s, orI, shl1I, ifb0, ifb1, Option.bind_some, gx, ux, Nat.add_zero, Nat.zero_add, Nat.not_lt_zero, false_or, or_false, Nat.mul_zero, Nat.zero_mul, if_neg, if_pos, ite_self]
    by_cases q : x ≤ y
    · simp (disch := omega) only [if_pos q]; exact ⟨_, rfl, rfl, fun _ => Or.inl rfl⟩
    · simp (disch := omega) only [if_neg q]; exact ⟨_, rfl, rfl, fun _ => Or.inr rfl⟩
  · show ∃ v, f2_joined f A (nI 61) x y = _ ∧ _
    simp (disch := omega) only [f2_joined, f2_joined_b23, f10_reckon, litI, letv, eqI, leI, ltI, addI, mulI, subI, clI, addneg, at_nI, put_nI, nI_s, orI, shl1I, ifb0, ifb1, Option.bind_some, gx, ux, Nat.add_zero, Nat.zero_add, Nat.not_lt_zero, false_or, or_false, Nat.mul_zero, Nat.zero_mul, if_neg, if_pos, ite_self]
    by_cases q : x = y
    · simp (disch := omega) only [if_pos q]; exact ⟨_, rfl, rfl, fun _ => Or.inr rfl⟩
    · simp (disch := omega) only [if_neg q]; exact ⟨_, rfl, rfl, fun _ => Or.inl rfl⟩
theorem jn_no {f : Nat → Int32} {A : Nat → Nat → Int32} {o : Nat} (x : Int32) (h : o = 5 ∨ o = 6) : f2_joined f A (nI (COP o)) x (nI 0) = some (0, upd f 8 1) := by
  rcases h with rfl | rfl
  · show f2_joined f A (nI 47) x (nI 0) = _
    simp (disch := omega) only [f2_joined, f2_joined_b23, litI, letv, eqI, leI, ltI, addI, mulI, subI, clI, addneg, at_nI, put_nI, nI_s, orI, shl1I, ifb0, ifb1, Option.bind_some, gx, ux, Nat.add_zero, Nat.zero_add, Nat.not_lt_zero, false_or, or_false, Nat.mul_zero, Nat.zero_mul, if_neg, if_pos, if_true]
  · show f2_joined f A (nI 37) x (nI 0) = _
    simp (disch := omega) only [f2_joined, f2_joined_b23, litI, letv, eqI, leI, ltI, addI, mulI, subI, clI, addneg, at_nI, put_nI, nI_s, orI, shl1I, ifb0, ifb1, Option.bind_some, gx, ux, Nat.add_zero, Nat.zero_add, Nat.not_lt_zero, false_or, or_false, Nat.mul_zero, Nat.zero_mul, if_neg, if_pos, if_true]
