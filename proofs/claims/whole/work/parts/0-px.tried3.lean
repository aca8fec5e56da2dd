theorem within_none {x : Int32} {a b : Nat} {A B : Int32} (hA : A = nI a) (hB : B = nI b) (hab : a ≤ b) (hb : b < 2147483648) (h : ∀ j, a ≤ j → j ≤ b → x ≠ nI j) : f9_within x A B = 0 := by
  rcases within_c x hA hB hab hb with ⟨h1, _⟩ | ⟨_, j, h1, h2, h3⟩
  · exact h1
  · exact absurd h3 (h j h1 h2)
theorem sub_eq {x : Int32} {a j : Nat} (h : x - nI a = nI j) : x = nI (j + a) := by
  have e : x = nI j + nI a := by rw [← h, Int32.sub_add_cancel]
  rw [e, addI]
/-- what may be tried -/
theorem try_c {T F : Nat} {w : Nat → Nat} {f0 fs fB g : Nat → Int32} {A0 As AB B : Nat → Nat → Int32} (hT : T < 65536) (e0 : fB 0 = nI T) (e6 : g 6 = nI T) (hM : MEN T F w fs As (B 0)) (x : Int32) : (f9_canBeTried f0 A0 fB AB fs As x = some 0 ∧ f10_canTry g B x = some 0) ∨ (f9_canBeTried f0 A0 fB AB fs As x = some 1 ∧ f10_canTry g B x = some 1 ∧ ∃ j, x = nI j ∧ (j ≤ 2 ∨ (10 ≤ j ∧ j ≤ 17) ∨ (20 ≤ j ∧ j ≤ 27) ∨ (30 ≤ j ∧ j ≤ 45))) := by
  have t10 : ∀ y, (∀ p, p < 16 → y ≠ nI p) → f10_isTold g B y = 0 := fun y hy => by
    unfold f10_isTold
    rw [in_eq, show f9_within y 0 15 = 0 from within_none (a := 0) (b := 15) rfl rfl (by decide) (by decide) (fun j _ h => hy j (by omega)), if_pos rfl]
  have m10 : ∀ y, (∀ p, p < 8 → y ≠ nI p) → f10_isMan g B y = some 0 := fun y hy => isMan10_no (within_none (a := 0) (b := 7) rfl rfl (by decide) (by decide) (fun j _ h => hy j (by omega)))
  have s30 : (30 : Int32) = nI 30 := rfl
  have s20 : (20 : Int32) = nI 20 := rfl
  have s10 : (10 : Int32) = nI 10 := rfl
  obtain ⟨m1, m2, m3⟩ := hM
  have hM : MEN T F w fs As (B 0) := ⟨m1, m2, m3⟩
  by_cases hx : ∃ j, j ≤ 45 ∧ x = nI j
  · obtain ⟨j, hj, rfl⟩ := hx
    -- what is ahead of 30, 20, 10
    have n30 : j < 30 → f10_isTold g B (nI j - nI 30) = 0 := fun h => t10 _ (fun p hp e => by
      have := sub_eq e
      rw [eqI (by omega) (by omega)] at this
      omega)
    have n20 : ¬ (20 ≤ j ∧ j ≤ 27) → f10_isMan g B (nI j - nI 20) = some 0 := fun h => m10 _ (fun p hp e => by
      have := sub_eq e
      rw [eqI (by omega) (by omega)] at this
      omega)
    have n10' : ¬ (10 ≤ j ∧ j ≤ 17) → f10_isMan g B (nI j - nI 10) = some 0 := fun h => m10 _ (fun p hp e => by
      have := sub_eq e
      rw [eqI (by omega) (by omega)] at this
      omega)
    have W : ∀ a b, a ≤ b → b < 100 → f9_within (nI j) (nI a) (nI b) = if a ≤ j ∧ j ≤ b then nI 1 else nI 0 := fun a b _ _ => withinI (by omega) (by omega) (by omega)
    unfold f9_canBeTried f10_canTry
    rw [in_eq, s30, s20, s10]
    generalize e30 : nI j - nI 30 = d30 at n30
    generalize e20 : nI j - nI 20 = d20 at n20
    generalize e10 : nI j - nI 10 = d10 at n10'
    have w1 := W 30 45 (by omega) (by omega)
    have w2 := W 20 27 (by omega) (by omega)
    have w3 := W 0 2 (by omega) (by omega)
    have w4 := W 10 17 (by omega) (by omega)
    by_cases c30 : 30 ≤ j
    · rw [if_pos (by omega)] at w1
      rw [if_neg (by omega)] at w3
      have k1 := n20 (by omega)
      have k2 := n10' (by omega)
      have d' : d30 = nI (j - 30) := by rw [← e30, subI c30]
      have t9 := told9 (A := AB) hT e0 (p := j - 30) (by omega)
      have t1 := told10 (A := B) hT e6 (p := j - 30) (by omega)
      simp (maxSteps := 3000000) (disch := omega) only [litI, letv, eqI, leI, ltI, addI, mulI, subI, clI, addneg, at_nI, put_nI, nI_s, orI, shl1I, ifb0, ifb1, Option.bind_some, gx, ux, Nat.add_zero, Nat.zero_add, Nat.not_lt_zero, false_or, or_false, Nat.mul_zero, Nat.zero_mul, w1, w3, k1, k2, if_neg, if_true, d', t9, t1]
      by_cases q : T.testBit (j - 30) = true
      · simp (maxSteps := 3000000) (disch := omega) only [q, if_true, eqI, not_true, or_true, not_false_eq_true, if_neg, if_false]
        exact Or.inr ⟨by first | trivial | rfl, by first | trivial | rfl, j, rfl, by omega⟩
      · simp (maxSteps := 3000000) (disch := omega) only [q, Bool.false_eq_true, if_true, eqI, true_or, not_true, if_false]
        exact Or.inl ⟨by first | trivial | rfl, by first | trivial | rfl⟩
    · rw [if_neg (by omega)] at w1
      by_cases c20 : 20 ≤ j ∧ j ≤ 27
      · rw [if_pos c20] at w2
        rw [if_neg (by omega)] at w3
        have k2 := n10' (by omega)
        have d' : d20 = nI (j - 20) := by rw [← e20, subI c20.1]
        have t9 := man9 (As := As) m1 m2 (c := j - 20) (by omega)
        have t1 := man10 (f := g) (A := B) (fun c hc => (m3 c hc).1) (c := j - 20) (by omega)
        have k3 := n30 (by omega)
        simp (maxSteps := 3000000) (disch := omega) only [litI, letv, eqI, leI, ltI, addI, mulI, subI, clI, addneg, at_nI, put_nI, nI_s, orI, shl1I, ifb0, ifb1, Option.bind_some, gx, ux, Nat.add_zero, Nat.zero_add, Nat.not_lt_zero, false_or, or_false, Nat.mul_zero, Nat.zero_mul, w1, w2, w3, k2, k3, if_neg, if_true, d', t9, t1]
        by_cases q : F.testBit (j - 20) = true
        · simp (maxSteps := 3000000) (disch := omega) only [q, if_true, eqI, not_true, or_true, not_false_eq_true, if_neg, if_false]
          exact Or.inr ⟨by first | trivial | rfl, by first | trivial | rfl, j, rfl, by omega⟩
        · simp (maxSteps := 3000000) (disch := omega) only [q, Bool.false_eq_true, if_true, eqI, true_or, not_true, if_false, k3]
          exact Or.inl ⟨by first | trivial | rfl, by first | trivial | rfl⟩
      · rw [if_neg c20] at w2
        have k1 := n20 c20
        have k3 := n30 (by omega)
        by_cases c0 : j ≤ 2
        · rw [if_pos (by omega)] at w3
          simp (maxSteps := 3000000) (disch := omega) only [litI, letv, eqI, leI, ltI, addI, mulI, subI, clI, addneg, at_nI, put_nI, nI_s, orI, shl1I, ifb0, ifb1, Option.bind_some, gx, ux, Nat.add_zero, Nat.zero_add, Nat.not_lt_zero, false_or, or_false, Nat.mul_zero, Nat.zero_mul, w1, w2, w3, if_neg, if_true]
          exact Or.inr ⟨by first | trivial | rfl, by first | trivial | rfl, j, rfl, by omega⟩
        · rw [if_neg (by omega)] at w3
          by_cases c10 : 10 ≤ j ∧ j ≤ 17
          · rw [if_pos c10] at w4
            have d' : d10 = nI (j - 10) := by rw [← e10, subI c10.1]
            have t9 := man9 (As := As) m1 m2 (c := j - 10) (by omega)
            have t1 := man10 (f := g) (A := B) (fun c hc => (m3 c hc).1) (c := j - 10) (by omega)
            by_cases q : F.testBit (j - 10) = true
            · simp (maxSteps := 3000000) (disch := omega) only [litI, letv, eqI, leI, ltI, addI, mulI, subI, clI, addneg, at_nI, put_nI, nI_s, orI, shl1I, ifb0, ifb1, Option.bind_some, gx, ux, Nat.add_zero, Nat.zero_add, Nat.not_lt_zero, false_or, or_false, Nat.mul_zero, Nat.zero_mul, w1, w2, w3, w4, k1, k3, if_neg, if_true, d', t9, t1, q, eqI, not_true, if_false]
              exact Or.inr ⟨by first | trivial | rfl, by first | trivial | rfl, j, rfl, by omega⟩
            · simp (maxSteps := 3000000) (disch := omega) only [litI, letv, eqI, leI, ltI, addI, mulI, subI, clI, addneg, at_nI, put_nI, nI_s, orI, shl1I, ifb0, ifb1, Option.bind_some, gx, ux, Nat.add_zero, Nat.zero_add, Nat.not_lt_zero, false_or, or_false, Nat.mul_zero, Nat.zero_mul, w1, w2, w3, w4, k1, k3, if_neg, if_true, d', t9, t1, q, Bool.false_eq_true, eqI, not_false_eq_true]
              exact Or.inl ⟨by first | trivial | rfl, by first | trivial | rfl⟩
          · rw [if_neg c10] at w4
            have k2 := n10' c10
            simp (maxSteps := 3000000) (disch := omega) only [litI, letv, eqI, leI, ltI, addI, mulI, subI, clI, addneg, at_nI, put_nI, nI_s, orI, shl1I, ifb0, ifb1, Option.bind_some, gx, ux, Nat.add_zero, Nat.zero_add, Nat.not_lt_zero, false_or, or_false, Nat.mul_zero, Nat.zero_mul, w1, w2, w3, w4, k1, k2, k3, if_neg, if_true]
            exact Or.inl ⟨by first | trivial | rfl, by first | trivial | rfl⟩
  · have no : ∀ j, j ≤ 45 → x ≠ nI j := fun j hj e => hx ⟨j, hj, e⟩
    left
    unfold f9_canBeTried f10_canTry
    rw [in_eq, show f9_within x 30 45 = 0 from within_none (a := 30) (b := 45) rfl rfl (by decide) (by decide) (fun j _ h => no j h), show f9_within x 20 27 = 0 from within_none (a := 20) (b := 27) rfl rfl (by decide) (by decide) (fun j _ h => no j (by omega)), show f9_within x 0 2 = 0 from within_none (a := 0) (b := 2) rfl rfl (by decide) (by decide) (fun j _ h => no j (by omega)), show f9_within x 10 17 = 0 from within_none (a := 10) (b := 17) rfl rfl (by decide) (by decide) (fun j _ h => no j (by omega)), if_pos rfl, if_pos rfl, if_pos rfl, if_pos rfl, if_pos rfl,
      m10 (x - 10) (fun p hp e => no (p + 10) (by omega) (sub_eq e)), m10 (x - 20) (fun p hp e => no (p + 20) (by omega) (sub_eq e)), t10 (x - 30) (fun p hp e => no (p + 30) (by omega) (sub_eq e))]
    exact ⟨rfl, rfl⟩
theorem ok_tried : OK_tried INV := by
  rintro σf σA fW AW μf μA x1 x2 hI
  have hI0 := hI
  obtain ⟨T, nx, hB, hS, hT, hW, hK, hL, hX⟩ := hI
  obtain ⟨b1, b2, b3, b4, b5, b6, b7⟩ := hB
  have hB : RB T nx (σf 2 0) (μf 6) (σA 2 1) (μA 3) := ⟨b1, b2, b3, b4, b5, b6, b7⟩
  obtain ⟨hr0, F0, w0, hS0, hM0⟩ := hS.split
  unfold f9_tried f10_tried
  rcases isHours_c x1 with ⟨h1, h2⟩ | ⟨N, n1, n2, rfl, h1, h2⟩
  · refine ⟨(-1, σA 4, σf 4, σA 6, σf 6, σA 10, σf 10), (-1, μA, μf), ?_, ?_, rfl, trial_none hI0⟩
    · rw [h1, Option.bind_some, if_pos rfl]
    · rw [if_pos h2]
  rw [h1, Option.bind_some, if_neg n10, h2, if_neg n10]
  rcases try_c (f0 := σf 0) (A0 := σA 0) (AB := σA 2) b1 b2 b3 hM0 x2 with ⟨u1, u2⟩ | ⟨u1, u2, v, rfl, hv⟩
  · refine ⟨(-1, σA 4, σf 4, σA 6, σf 6, σA 10, σf 10), (-1, μA, μf), ?_, ?_, rfl, trial_none hI0⟩
    · rw [u1, Option.bind_some, if_pos rfl]
    · rw [u2, Option.bind_some, if_pos rfl]
  obtain ⟨As0, fs0, z, e1, e2, hz, -, -, hbeg⟩ := trial_begin hB hS hW hL
  rw [u1, Option.bind_some, if_neg n10, e1, Option.bind_some, u2, Option.bind_some, if_neg n10, e2, Option.bind_some]
  unfold f10_hoursGo
  simp only [letv]
  have hg : ∀ j, j ≠ 41 → j ≠ 42 → upd (upd μf 41 0) 42 0 j = μf j := fun j a b => by rw [upd_n b, upd_n a]
  generalize hgg : upd (upd μf 41 0) 42 0 = g at hg
  have hg41 : g 41 = 0 := by rw [← hgg, upd_n (by decide), upd_s]
  have hg42 : g 42 = 0 := by rw [← hgg, upd_s]
  obtain ⟨hH0, hB', hW'⟩ := hbeg g hg
  have key := loop_rel (fun n (s : SSt × Int32 × Int32 × Int32) => f9_tried_l36 (σf 0) (σA 0) (σf 2) (σA 2) (σf 3) (σA 3) fW AW (nI N) (nI v) n s.1.1 s.1.2.1 s.1.2.2.1 s.1.2.2.2.1 s.1.2.2.2.2.1 s.1.2.2.2.2.2 s.2.1 s.2.2.1 s.2.2.2) (fun n (s : (Nat → Nat → Int32) × (Nat → Int32) × Int32) => f10_hoursGo_l12 (nI N) n s.1 s.2.1 s.2.2) N
    (fun j s t => ∃ As fs A0 f0 AL fL x y B g1, s = ((As, fs, A0, f0, AL, fL), x, y, nI j) ∧ t = (B, g1, nI j) ∧ HS T fL AL fs As g1 g B (updA μA 1 z) ∧ g1 41 = x ∧ g1 42 = y)
    (fun a b => ∃ As fs A0 f0 AL fL x y B g1, a = f9_tried_b81 (σf 0) (σA 0) (σf 2) (σA 2) (σf 3) (σA 3) fW AW (nI N) (nI v) As fs A0 f0 AL fL x y ∧ b = some (B, g1) ∧ HS T fL AL fs As g1 g B (updA μA 1 z) ∧ g1 41 = x ∧ g1 42 = y) (by omega) (by
      rintro n m j s t hj ⟨As, fs, A0, f0, AL, fL, x, y, B, g1, rfl, rfl, hH, hx, hy⟩
      have ea : ∀ n, f9_tried_l36 (σf 0) (σA 0) (σf 2) (σA 2) (σf 3) (σA 3) fW AW (nI N) (nI v) (n + 1) As fs A0 f0 AL fL x y (nI j) = f9_tried_b36 (σf 0) (σA 0) (σf 2) (σA 2) (σf 3) (σA 3) fW AW (nI N) (nI v) (f9_tried_l36 (σf 0) (σA 0) (σf 2) (σA 2) (σf 3) (σA 3) fW AW (nI N) (nI v) n) As fs A0 f0 AL fL x y (nI j) := fun _ => rfl
      have eb : ∀ m, f10_hoursGo_l12 (nI N) (m + 1) B g1 (nI j) = f10_hoursGo_b12 (nI N) (f10_hoursGo_l12 (nI N) m) B g1 (nI j) := fun _ => rfl
      simp only [ea, eb]
      unfold f9_tried_b36 f10_hoursGo_b12
      by_cases hN : N ≤ j
      · left
        have hN' : nI N ≤ nI j := by rw [leI (by omega) (by omega)]; exact hN
        rw [if_pos hN', if_pos hN']
        exact ⟨_, _, _, _, _, _, _, _, _, _, rfl, rfl, hH, hx, hy⟩
      have hN' : ¬ nI N ≤ nI j := by rw [leI (by omega) (by omega)]; exact hN
      simp only [if_neg hN']
      rcases pass_c (f9 := σf 0) (A9 := σA 0) (f0 := f0) (A0 := A0) hB' hW' hH with ⟨A0', f0', p1, p2⟩ | ⟨A0', f0', As', fs', AL', fL', B', g', p1, p2, p3, p4, p5, p6, p7⟩
      · left
        refine ⟨As, fs, A0', f0', AL, fL, x, y, B, g1, ?_, ?_, hH, hx, hy⟩
        · rw [p1, Option.bind_some, if_pos rfl]
        · simp (maxSteps := 3000000) (disch := omega) only [litI, letv, eqI, leI, ltI, addI, mulI, subI, clI, addneg, at_nI, put_nI, nI_s, orI, shl1I, ifb0, ifb1, Option.bind_some, gx, ux, Nat.add_zero, Nat.zero_add, Nat.not_lt_zero, false_or, or_false, Nat.mul_zero, Nat.zero_mul, p2, if_true]
      · right
        refine ⟨by omega, ((As', fs', A0', f0', AL', fL'), x + f0' 2, y + f0' 3, nI (j + 1)), (B', g', nI (j + 1)), ?_, ?_, As', fs', A0', f0', AL', fL', x + f0' 2, y + f0' 3, B', g', rfl, rfl, p4, by rw [p5, hx], by rw [p6, hy]⟩
        · rw [p1, Option.bind_some, if_neg n10, nI_s]
        · simp (maxSteps := 3000000) (disch := omega) only [litI, letv, eqI, leI, ltI, addI, mulI, subI, clI, addneg, at_nI, put_nI, nI_s, orI, shl1I, ifb0, ifb1, Option.bind_some, gx, ux, Nat.add_zero, Nat.zero_add, Nat.not_lt_zero, false_or, or_false, Nat.mul_zero, Nat.zero_mul, p2, if_false, p3]) ((As0, fs0, σA 6, σf 6, σA 10, σf 10), 0, 0, 0) (updA μA 1 z, g, 0) ⟨_, _, _, _, _, _, _, _, _, _, rfl, rfl, hH0, hg41, hg42⟩
  obtain ⟨As, fs, A0, f0, AL, fL, x, y, B, g1, k1, k2, ⟨q1, q2, q3, q4⟩, q5, q6⟩ := key
  obtain ⟨zz, y1, y2⟩ := trial_end hI0 hz (T := T) (f0 := f0) (fs := fs) (A0 := A0) (As := As) q2 q3 (fun j a b => (q4 j a b).trans (hg j a b))
  have k2' : f10_hoursGo_l12 (nI N) NF (updA μA 1 z) g 0 = some (B, g1) := k2
  have k1' : f9_tried_l36 (σf 0) (σA 0) (σf 2) (σA 2) (σf 3) (σA 3) fW AW (nI N) (nI v) NF As0 fs0 (σA 6) (σf 6) (σA 10) (σf 10) 0 0 0 = f9_tried_b81 (σf 0) (σA 0) (σf 2) (σA 2) (σf 3) (σA 3) fW AW (nI N) (nI v) As fs A0 f0 AL fL x y := k1
  rw [k1', k2', Option.bind_some]
  have fin : ∀ l, f10_tried_b154 (nI N) (nI v) B g1 l = some (l, updA B 0 zz, g1) := fun l => by
    unfold f10_tried_b154
    rw [y1]; rfl
  simp only [fin, q5, q6]
  have out : ∀ ans P Q, P = some (ans, As, fs, A0, f0, AL, fL) → Q = some (ans, updA B 0 zz, g1) → ∃ (r : Int32 × (Nat → Nat → Int32) × (Nat → Int32) × (Nat → Nat → Int32) × (Nat → Int32) × (Nat → Nat → Int32) × (Nat → Int32)) (r' : Int32 × (Nat → Nat → Int32) × (Nat → Int32)), P = some r ∧ Q = some r' ∧ r.1 = (r'.1) ∧ INV (cset (cset (cset σf 4 (r.2.2.1)) 6 (r.2.2.2.2.1)) 10 (r.2.2.2.2.2.2)) (cset (cset (cset σA 4 (r.2.1)) 6 (r.2.2.2.1)) 10 (r.2.2.2.2.2.1)) fW AW (r'.2.2) (r'.2.1) := fun ans P Q hP hQ => ⟨_, _, hP, hQ, rfl, y2⟩
  obtain ⟨hr, F, w, hSb, m1, m2, m3⟩ := q1.split
  have t1 : B 1 72 = σf 3 6 := by
    rw [q3 1 (by decide) (by decide) (by decide), updA_s, hz 72 (by decide)]
    obtain ⟨d, d1, d2, d3⟩ := hS0.2.2.1
    rw [d2, d3]
  have t0 : B 0 72 = fs 6 := by
    obtain ⟨d, d1, d2, d3⟩ := hSb.2.2.1
    rw [d2, d3]
  unfold f9_tried_b81
  by_cases c0 : v = 0
  · subst c0
    refine out x _ _ ?_ ?_
    · simp (maxSteps := 3000000) (disch := omega) only [litI, letv, eqI, leI, ltI, addI, mulI, subI, clI, addneg, at_nI, put_nI, nI_s, orI, shl1I, ifb0, ifb1, Option.bind_some, gx, ux, Nat.add_zero, Nat.zero_add, Nat.not_lt_zero, false_or, or_false, Nat.mul_zero, Nat.zero_mul, if_true]
    · simp (maxSteps := 3000000) (disch := omega) only [litI, letv, eqI, leI, ltI, addI, mulI, subI, clI, addneg, at_nI, put_nI, nI_s, orI, shl1I, ifb0, ifb1, Option.bind_some, gx, ux, Nat.add_zero, Nat.zero_add, Nat.not_lt_zero, false_or, or_false, Nat.mul_zero, Nat.zero_mul, if_true]
  by_cases c1 : v = 1
  · subst c1
    refine out y _ _ ?_ ?_
    · simp (maxSteps := 3000000) (disch := omega) only [litI, letv, eqI, leI, ltI, addI, mulI, subI, clI, addneg, at_nI, put_nI, nI_s, orI, shl1I, ifb0, ifb1, Option.bind_some, gx, ux, Nat.add_zero, Nat.zero_add, Nat.not_lt_zero, false_or, or_false, Nat.mul_zero, Nat.zero_mul, if_true, if_neg]
    · simp (maxSteps := 3000000) (disch := omega) only [litI, letv, eqI, leI, ltI, addI, mulI, subI, clI, addneg, at_nI, put_nI, nI_s, orI, shl1I, ifb0, ifb1, Option.bind_some, gx, ux, Nat.add_zero, Nat.zero_add, Nat.not_lt_zero, false_or, or_false, Nat.mul_zero, Nat.zero_mul, if_true, if_neg]
  by_cases c2 : v = 2
  · subst c2
    refine out (fs 6 - σf 3 6) _ _ ?_ ?_
    · simp (maxSteps := 3000000) (disch := omega) only [litI, letv, eqI, leI, ltI, addI, mulI, subI, clI, addneg, at_nI, put_nI, nI_s, orI, shl1I, ifb0, ifb1, Option.bind_some, gx, ux, Nat.add_zero, Nat.zero_add, Nat.not_lt_zero, false_or, or_false, Nat.mul_zero, Nat.zero_mul, if_true, if_neg]
    · simp (maxSteps := 3000000) (disch := omega) only [litI, letv, eqI, leI, ltI, addI, mulI, subI, clI, addneg, at_nI, put_nI, nI_s, orI, shl1I, ifb0, ifb1, Option.bind_some, gx, ux, Nat.add_zero, Nat.zero_add, Nat.not_lt_zero, false_or, or_false, Nat.mul_zero, Nat.zero_mul, if_true, if_neg, t0, t1]
  by_cases c30 : 30 ≤ v
  · obtain ⟨-, -, u, u1, u2, u3⟩ := hSb.1 (v - 30) (by omega)
    refine out (nI u) _ _ ?_ ?_
    · simp (maxSteps := 3000000) (disch := omega) only [litI, letv, eqI, leI, ltI, addI, mulI, subI, clI, addneg, at_nI, put_nI, nI_s, orI, shl1I, ifb0, ifb1, Option.bind_some, gx, ux, Nat.add_zero, Nat.zero_add, Nat.not_lt_zero, false_or, or_false, Nat.mul_zero, Nat.zero_mul, if_true, if_neg, if_pos, u2]
    · have e : 32 + v - 30 = 32 + (v - 30) := by omega
      simp (maxSteps := 3000000) (disch := omega) only [litI, letv, eqI, leI, ltI, addI, mulI, subI, clI, addneg, at_nI, put_nI, nI_s, orI, shl1I, ifb0, ifb1, Option.bind_some, gx, ux, Nat.add_zero, Nat.zero_add, Nat.not_lt_zero, false_or, or_false, Nat.mul_zero, Nat.zero_mul, if_true, if_neg, if_pos, e, u3]
  by_cases c20 : 20 ≤ v
  · obtain ⟨u, u1, u2, u3⟩ := hSb.2.1.2.2.2 (v - 20) (by omega)
    refine out (nI u) _ _ ?_ ?_
    · simp (maxSteps := 3000000) (disch := omega) only [litI, letv, eqI, leI, ltI, addI, mulI, subI, clI, addneg, at_nI, put_nI, nI_s, orI, shl1I, ifb0, ifb1, Option.bind_some, gx, ux, Nat.add_zero, Nat.zero_add, Nat.not_lt_zero, false_or, or_false, Nat.mul_zero, Nat.zero_mul, if_true, if_neg, if_pos, u2]
    · have e : 64 + v - 20 = 64 + (v - 20) := by omega
      simp (maxSteps := 3000000) (disch := omega) only [litI, letv, eqI, leI, ltI, addI, mulI, subI, clI, addneg, at_nI, put_nI, nI_s, orI, shl1I, ifb0, ifb1, Option.bind_some, gx, ux, Nat.add_zero, Nat.zero_add, Nat.not_lt_zero, false_or, or_false, Nat.mul_zero, Nat.zero_mul, if_true, if_neg, if_pos, e, u3]
  · obtain ⟨g1, g2, g3, g4, -⟩ := m3 (v - 10) (by omega)
    refine out (nI (w (v - 10))) _ _ ?_ ?_
    · simp (maxSteps := 3000000) (disch := omega) only [litI, letv, eqI, leI, ltI, addI, mulI, subI, clI, addneg, at_nI, put_nI, nI_s, orI, shl1I, ifb0, ifb1, Option.bind_some, gx, ux, Nat.add_zero, Nat.zero_add, Nat.not_lt_zero, false_or, or_false, Nat.mul_zero, Nat.zero_mul, if_true, if_neg, if_pos, g3]
    · have e : 56 + v - 10 = 56 + (v - 10) := by omega
      simp (maxSteps := 3000000) (disch := omega) only [litI, letv, eqI, leI, ltI, addI, mulI, subI, clI, addneg, at_nI, put_nI, nI_s, orI, shl1I, ifb0, ifb1, Option.bind_some, gx, ux, Nat.add_zero, Nat.zero_add, Nat.not_lt_zero, false_or, or_false, Nat.mul_zero, Nat.zero_mul, if_true, if_neg, if_pos, e, g4]
