/-! PLEAS: what a LINE does -/
theorem RS.tempt {T : Nat} {fs : Nat → Int32} {As : Nat → Nat → Int32} {An : Nat → Int32} (h : RS T fs As An) {q v : Nat} (hq : q < 16) (hv : v ≤ 99) : RS T fs (updA As 0 (upd (As 0) q (nI v))) (upd An q (nI v)) := by
  obtain ⟨h1, ⟨F, hF, e5, h2⟩, ⟨hr, h3, h4, h5, h6⟩, ⟨d, d1, d2, d3⟩, ⟨e, e1, e2, e3⟩, ⟨f, f1, f2, f3⟩⟩ := h
  refine ⟨fun p hp => ?_, ⟨F, hF, e5, fun c hc => ?_⟩, ⟨hr, h3, h4, (upd_n (by omega)).trans h5, fun c hc => ?_⟩, ⟨d, d1, d2, (upd_n (by omega)).trans d3⟩, ⟨e, e1, e2, (upd_n (by omega)).trans e3⟩, ⟨f, f1, f2, (upd_n (by omega)).trans f3⟩⟩
  · obtain ⟨a1, a2, a3⟩ := h1 p hp
    rw [updA_s, updA_n (show (1 : Nat) ≠ 0 by decide), updA_n (show (2 : Nat) ≠ 0 by decide), upd_n (show 16 + p ≠ q by omega), upd_n (show 32 + p ≠ q by omega)]
    refine ⟨?_, a2, a3⟩
    by_cases e : p = q
    · subst e; exact ⟨v, hv, upd_s, upd_s⟩
    · rw [upd_n e, upd_n e]; exact a1
  · rw [updA_n (by decide), upd_n (by omega), upd_n (by omega)]; exact h2 c hc
  · rw [updA_n (by decide), upd_n (by omega)]; exact h6 c hc
theorem RS.grav {T : Nat} {fs : Nat → Int32} {As : Nat → Nat → Int32} {An : Nat → Int32} (h : RS T fs As An) {q v : Nat} (hq : q < 16) (hv : v ≤ 999) : RS T fs (updA As 1 (upd (As 1) q (nI v))) (upd An (16 + q) (nI v)) := by
  obtain ⟨h1, ⟨F, hF, e5, h2⟩, ⟨hr, h3, h4, h5, h6⟩, ⟨d, d1, d2, d3⟩, ⟨e, e1, e2, e3⟩, ⟨f, f1, f2, f3⟩⟩ := h
  refine ⟨fun p hp => ?_, ⟨F, hF, e5, fun c hc => ?_⟩, ⟨hr, h3, h4, (upd_n (by omega)).trans h5, fun c hc => ?_⟩, ⟨d, d1, d2, (upd_n (by omega)).trans d3⟩, ⟨e, e1, e2, (upd_n (by omega)).trans e3⟩, ⟨f, f1, f2, (upd_n (by omega)).trans f3⟩⟩
  · obtain ⟨a1, a2, a3⟩ := h1 p hp
    rw [updA_s, updA_n (show (0 : Nat) ≠ 1 by decide), updA_n (show (2 : Nat) ≠ 1 by decide), upd_n (show p ≠ 16 + q by omega), upd_n (show 32 + p ≠ 16 + q by omega)]
    refine ⟨a1, ?_, a3⟩
    by_cases e : p = q
    · subst e; exact ⟨v, hv, upd_s, upd_s⟩
    · rw [upd_n e, upd_n (by omega)]; exact a2
  · rw [updA_n (by decide), upd_n (by omega), upd_n (by omega)]; exact h2 c hc
  · rw [updA_n (by decide), upd_n (by omega)]; exact h6 c hc
def nxj (nx : Nat → Nat) (p q : Nat) : Nat → Nat := fun i => if i = p then nx p ||| 2 ^ q else if i = q then nx q ||| 2 ^ p else nx i
theorem cut1_bit {a q i : Nat} (ha : a < 65536) : (cut1 a q).testBit i = (a.testBit i && !(i == q)) := by
  unfold cut1
  rw [mset_bit, Nat.testBit_two_pow]
  by_cases hi : i < 16
  · rw [decide_eq_true hi, Bool.true_and]
    by_cases e : q = i
    · subst e; simp
    · simp [e, show ¬ i = q from fun h => e h.symm]
  · rw [decide_eq_false hi, Bool.false_and, Nat.testBit_lt_two_pow (Nat.lt_of_lt_of_le ha (Nat.pow_le_pow_right (n := 2) (i := 16) (by decide) (by omega))), Bool.false_and]
theorem pow16 {q : Nat} (hq : q < 16) : 2 ^ q < 2 ^ 16 := Nat.pow_lt_pow_right (by decide) hq
theorem RB.join {T p q : Nat} {nx : Nat → Nat} {told told' : Int32} {X Y : Nat → Int32} (h : RB T nx told told' X Y) (hp : p < 16) (hq : q < 16) (hpq : p ≠ q) (hTp : T.testBit p = true) (hTq : T.testBit q = true) : RB T (nxj nx p q) told told' (upd (upd X p (nI (nx p ||| 2 ^ q))) q (nI (nx q ||| 2 ^ p))) (upd (upd Y p (nI (nx p ||| 2 ^ q))) q (nI (nx q ||| 2 ^ p))) := by
  obtain ⟨b1, b2, b3, b4, b5, b6, b7⟩ := h
  have bit : ∀ i j, (nxj nx p q i).testBit j = ((nx i).testBit j || (i == p && j == q) || (i == q && j == p)) := fun i j => by
    unfold nxj
    by_cases e : i = p
    · subst e
      rw [if_pos rfl, or_bit', beq_self_eq_true, Bool.true_and, beq_eq_false_iff_ne.mpr hpq, Bool.false_and, Bool.or_false]
    · rw [if_neg e]
      by_cases e2 : i = q
      · subst e2
        rw [if_pos rfl, or_bit', beq_eq_false_iff_ne.mpr e, Bool.false_and, Bool.or_false, beq_self_eq_true, Bool.true_and]
      · rw [if_neg e2, beq_eq_false_iff_ne.mpr e, beq_eq_false_iff_ne.mpr e2]; simp
  refine ⟨b1, b2, b3, fun i hi => ?_, fun i j hi hj => ?_, fun i hi => ?_, fun i j hi hb => ?_⟩
  · unfold nxj
    by_cases e2 : i = q
    · subst e2
      rw [upd_s, upd_s, if_neg (fun h => hpq h.symm), if_pos rfl]
      exact ⟨rfl, rfl, Nat.or_lt_two_pow (b4 i hi).2.2 (pow16 hp)⟩
    · rw [upd_n e2, upd_n e2]
      by_cases e : i = p
      · subst e
        rw [upd_s, upd_s, if_pos rfl]
        exact ⟨rfl, rfl, Nat.or_lt_two_pow (b4 i hi).2.2 (pow16 hq)⟩
      · rw [upd_n e, upd_n e, if_neg e, if_neg e2]; exact b4 i hi
  · rw [bit, bit, b5 i j hi hj]
    cases i == p <;> cases j == q <;> cases i == q <;> cases j == p <;> cases (nx j).testBit i <;> rfl
  · rw [bit, b6 i hi]
    by_cases e : i = p
    · subst e
      rw [beq_eq_false_iff_ne.mpr hpq]; simp
    · rw [beq_eq_false_iff_ne.mpr e]; simp
  · rw [bit, Bool.or_eq_true, Bool.or_eq_true, Bool.and_eq_true, Bool.and_eq_true, beq_iff_eq, beq_iff_eq, beq_iff_eq, beq_iff_eq] at hb
    rcases hb with (hb | ⟨rfl, rfl⟩) | ⟨rfl, rfl⟩
    · exact b7 i j hi hb
    · exact ⟨hTp, hTq⟩
    · exact ⟨hTq, hTp⟩
theorem RB.part {T p q : Nat} {nx : Nat → Nat} {told told' : Int32} {X Y : Nat → Int32} (h : RB T nx told told' X Y) (hp : p < 16) (hq : q < 16) (hpq : p ≠ q) : RB T (nxm nx p q) told told' (upd (upd X p (nI (cut1 (nx p) q))) q (nI (cut1 (nx q) p))) (upd (upd Y p (nI (cut1 (nx p) q))) q (nI (cut1 (nx q) p))) := by
  obtain ⟨b1, b2, b3, b4, b5, b6, b7⟩ := h
  have bit : ∀ i j, i < 16 → (nxm nx p q i).testBit j = ((nx i).testBit j && !((i == p && j == q) || (i == q && j == p))) := fun i j hi => by
    unfold nxm
    by_cases e : i = p
    · subst e
      rw [if_pos rfl, cut1_bit (b4 i hi).2.2, beq_self_eq_true, Bool.true_and, beq_eq_false_iff_ne.mpr hpq, Bool.false_and, Bool.or_false]
    · rw [if_neg e]
      by_cases e2 : i = q
      · subst e2
        rw [if_pos rfl, cut1_bit (b4 i hi).2.2, beq_eq_false_iff_ne.mpr e, Bool.false_and, Bool.false_or, beq_self_eq_true, Bool.true_and]
      · rw [if_neg e2, beq_eq_false_iff_ne.mpr e, beq_eq_false_iff_ne.mpr e2]; simp
  refine ⟨b1, b2, b3, fun i hi => ?_, fun i j hi hj => ?_, fun i hi => ?_, fun i j hi hb => ?_⟩
  · unfold nxm
    by_cases e2 : i = q
    · subst e2
      rw [upd_s, upd_s, if_neg (fun h => hpq h.symm), if_pos rfl]
      exact ⟨rfl, rfl, cut1_lt _ _⟩
    · rw [upd_n e2, upd_n e2]
      by_cases e : i = p
      · subst e
        rw [upd_s, upd_s, if_pos rfl]
        exact ⟨rfl, rfl, cut1_lt _ _⟩
      · rw [upd_n e, upd_n e, if_neg e, if_neg e2]; exact b4 i hi
  · rw [bit i j hi, bit j i hj, b5 i j hi hj]
    cases i == p <;> cases j == q <;> cases i == q <;> cases j == p <;> cases (nx j).testBit i <;> rfl
  · rw [bit i i hi, b6 i hi, Bool.false_and]
  · rw [bit i j hi, Bool.and_eq_true] at hb
    exact b7 i j hi hb.1
/-- what one LINE does, in the class -/
noncomputable def gst (f2 : Nat → Int32) (p s v : Int32) (X : (Nat → Nat → Int32) × (Nat → Nat → Int32)) : (Nat → Nat → Int32) × (Nat → Nat → Int32) :=
  if s = 38 then (X.1, f1_join f2 X.2 p v) else if s = 43 then (updA X.1 0 (f9_put 16 (X.1 0) p (f9_clamp (f9_at 16 (X.1 0) p + v) 0 99)), X.2) else if s = 45 then (updA X.1 0 (f9_put 16 (X.1 0) p (f9_clamp (f9_at 16 (X.1 0) p - v) 0 99)), X.2) else if s = 61 then (updA X.1 1 (f9_put 16 (X.1 1) p v), X.2) else (X.1, f1_part f2 X.2 p v)
noncomputable def gfold (f2 : Nat → Int32) (L : Nat → Nat → Int32) (X : (Nat → Nat → Int32) × (Nat → Nat → Int32)) : Nat → (Nat → Nat → Int32) × (Nat → Nat → Int32)
  | 0 => X
  | i + 1 => gst f2 (L 0 i) (L 1 i) (L 2 i) (gfold f2 L X i)
theorem gfold_congr {f2 : Nat → Int32} {L L' : Nat → Nat → Int32} {X : (Nat → Nat → Int32) × (Nat → Nat → Int32)} : ∀ l, (∀ k i, i < l → k < 3 → L' k i = L k i) → gfold f2 L' X l = gfold f2 L X l := by
  intro l
  induction l with
  | zero => intro _; rfl
  | succ l ih =>
    intro h
    show gst f2 (L' 0 l) (L' 1 l) (L' 2 l) (gfold f2 L' X l) = gst f2 (L 0 l) (L 1 l) (L 2 l) (gfold f2 L X l)
    rw [ih (fun k i hi hk => h k i (by omega) hk), h 0 l (by omega) (by omega), h 1 l (by omega) (by omega), h 2 l (by omega) (by omega)]
theorem grant_c {f4 f1 f2 : Nat → Int32} {L A1 A2 : Nat → Nat → Int32} {l : Nat} (hl : l ≤ 20) (h3 : f4 3 = nI l) : f3_grant f4 L f1 A1 f2 A2 = some (gfold f2 L (A1, A2) l) := by
  unfold f3_grant
  refine loop_one (fun k (s : (Nat → Nat → Int32) × (Nat → Nat → Int32) × Int32) => f3_grant_l2 f4 L f1 f2 k s.1 s.2.1 s.2.2) l (fun i s => s = ((gfold f2 L (A1, A2) i).1, (gfold f2 L (A1, A2) i).2, nI i)) (fun P => P = some (gfold f2 L (A1, A2) l)) (by omega) ?_ (A1, A2, 0) rfl
  rintro k i s hi rfl
  have ea : ∀ k A1 A2 i, f3_grant_l2 f4 L f1 f2 (k + 1) A1 A2 i = f3_grant_b2 f4 L f1 f2 (f3_grant_l2 f4 L f1 f2 k) A1 A2 i := fun _ _ _ _ => rfl
  simp only [ea]
  generalize f3_grant_l2 f4 L f1 f2 k = Kn
  unfold f3_grant_b2
  by_cases h : l ≤ i
  · have : i = l := by omega
    subst this
    left
    rw [h3, if_pos (show nI i ≤ nI i by rw [leI (by omega) (by omega)]; omega)]
  right
  refine ⟨by omega, ((gfold f2 L (A1, A2) (i + 1)).1, (gfold f2 L (A1, A2) (i + 1)).2, nI (i + 1)), ?_, rfl⟩
  rw [h3, if_neg (show ¬ nI l ≤ nI i by rw [leI (by omega) (by omega)]; exact h), at_nI (by omega) (by decide), at_nI (by omega) (by decide), at_nI (by omega) (by decide), nI_s]
  show _ = Kn (gst f2 (L 0 i) (L 1 i) (L 2 i) (gfold f2 L (A1, A2) i)).1 (gst f2 (L 0 i) (L 1 i) (L 2 i) (gfold f2 L (A1, A2) i)).2 (nI (i + 1))
  generalize gfold f2 L (A1, A2) i = X
  unfold gst
  by_cases c1 : L 1 i = 38
  · rw [if_pos c1, if_pos c1]; rfl
  rw [if_neg c1, if_neg c1]
  by_cases c2 : L 1 i = 43
  · rw [if_pos c2, if_pos c2]; rfl
  rw [if_neg c2, if_neg c2]
  by_cases c3 : L 1 i = 45
  · rw [if_pos c3, if_pos c3]; rfl
  rw [if_neg c3, if_neg c3]
  by_cases c4 : L 1 i = 61
  · rw [if_pos c4, if_pos c4]; rfl
  rw [if_neg c4, if_neg c4]; rfl
/-- state and lanes, class and reference -/
def SR (T : Nat) (f2 fs : Nat → Int32) (X : (Nat → Nat → Int32) × (Nat → Nat → Int32)) (B : Nat → Nat → Int32) (g : Nat → Int32) : Prop := (∃ nx, RB T nx (f2 0) (g 6) (X.2 1) (B 3)) ∧ RS T fs X.1 (B 0)
theorem cl10 (y : Int32) : f10_max 0 (f10_min 99 y) = f9_clamp y 0 99 := by
  have := clamp_c y (M := 99) (by decide)
  rw [show f9_clamp y 0 99 = f9_clamp y (nI 0) (nI 99) from rfl, this]
  unfold f10_max f10_min
  have h0 : (0 : Int32) = nI 0 := rfl
  have h9 : (99 : Int32) = nI 99 := rfl
  rw [h0, h9]
  by_cases q : y ≤ nI 99
  · rw [if_pos q]
  · rw [if_neg q, if_pos (show nI 0 ≤ nI 99 by decide), if_pos (show nI 0 ≤ y from Int32.le_of_lt (Int32.lt_of_le_of_lt (show nI 0 ≤ nI 99 by decide) (Int32.not_le.mp q)))]
theorem clamp_rng (y : Int32) : ∃ k, k ≤ 99 ∧ f9_clamp y 0 99 = nI k := by
  have := clamp_c y (M := 99) (by decide)
  rw [show f9_clamp y 0 99 = f9_clamp y (nI 0) (nI 99) from rfl, this]
  by_cases q : nI 0 ≤ y
  · rw [if_pos q]
    by_cases q2 : y ≤ nI 99
    · rw [if_pos q2]
      obtain ⟨j, hj, rfl⟩ := nI_of (Int32.not_lt.mpr q)
      rw [leI hj (by omega)] at q2
      exact ⟨j, q2, rfl⟩
    · rw [if_neg q2]; exact ⟨99, by omega, rfl⟩
  · rw [if_neg q]; exact ⟨0, by omega, rfl⟩
