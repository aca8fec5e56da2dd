theorem HS.zero {T : Nat} {fL : Nat → Int32} {AL : Nat → Nat → Int32} {fs : Nat → Int32} {As : Nat → Nat → Int32} {g g0 : Nat → Int32} {B B0 : Nat → Nat → Int32} (h : HS T fL AL fs As g g0 B B0) (x : Int32) : HS T fL AL fs As (upd g 41 x) g0 B B0 :=
  ⟨h.1, h.2.1.congr rfl (fun _ _ => rfl) (upd_n (by decide)) (fun _ _ _ => rfl), h.2.2.1, fun j a b => (upd_n a).trans (h.2.2.2 j a b)⟩
theorem ok_quiet : OK_quiet INV := by
  rintro σf σA fW AW μf μA x1 hI
  have hI0 := hI
  obtain ⟨T, nx, hB, hS, hT, hW, hK, hL, hX⟩ := hI
  unfold f9_quiet f10_quiet
  rcases isHours_c x1 with ⟨h1, h2⟩ | ⟨N, n1, n2, rfl, h1, h2⟩
  · refine ⟨(-1, σA 4, σf 4, σA 6, σf 6, σA 10, σf 10), (-1, μA, μf), ?_, ?_, rfl, trial_none hI0⟩
    · rw [h1, Option.bind_some, if_pos rfl]
    · rw [if_pos h2]
  obtain ⟨As0, fs0, z, e1, e2, hz, -, -, hbeg⟩ := trial_begin hB hS hW hL
  rw [h1, Option.bind_some, if_neg n10, h2, if_neg n10, e1, Option.bind_some, e2, Option.bind_some]
  simp only [letv]
  obtain ⟨hH0, hB', hW'⟩ := hbeg μf (fun _ _ _ => rfl)
  have key := loop_rel (fun n (s : SSt × Int32 × Int32 × Int32) => f9_quiet_l27 (σf 0) (σA 0) (σf 2) (σA 2) (σf 3) (σA 3) fW AW (nI N) n s.1.1 s.1.2.1 s.1.2.2.1 s.1.2.2.2.1 s.1.2.2.2.2.1 s.1.2.2.2.2.2 s.2.1 s.2.2.1 s.2.2.2) (fun n (s : (Nat → Nat → Int32) × (Nat → Int32) × Int32 × Int32 × Int32) => f10_quiet_l31 (nI N) n s.1 s.2.1 s.2.2.1 s.2.2.2.1 s.2.2.2.2) N
    (fun j s t => ∃ As fs A0 f0 AL fL x y B g1, s = ((As, fs, A0, f0, AL, fL), x, y, nI j) ∧ t = (B, g1, y, x, nI j) ∧ HS T fL AL fs As g1 μf B (updA μA 1 z))
    (fun a b => ∃ As fs A0 f0 AL fL x B g1, a = some (x, As, fs, A0, f0, AL, fL) ∧ b = f10_quiet_b86 (nI N) B g1 x ∧ HS T fL AL fs As g1 μf B (updA μA 1 z)) (by omega) (by
      rintro n m j s t hj ⟨As, fs, A0, f0, AL, fL, x, y, B, g1, rfl, rfl, hH⟩
      have ea : ∀ n, f9_quiet_l27 (σf 0) (σA 0) (σf 2) (σA 2) (σf 3) (σA 3) fW AW (nI N) (n + 1) As fs A0 f0 AL fL x y (nI j) = f9_quiet_b27 (σf 0) (σA 0) (σf 2) (σA 2) (σf 3) (σA 3) fW AW (nI N) (f9_quiet_l27 (σf 0) (σA 0) (σf 2) (σA 2) (σf 3) (σA 3) fW AW (nI N) n) As fs A0 f0 AL fL x y (nI j) := fun _ => rfl
      have eb : ∀ m, f10_quiet_l31 (nI N) (m + 1) B g1 y x (nI j) = f10_quiet_b31 (nI N) (f10_quiet_l31 (nI N) m) B g1 y x (nI j) := fun _ => rfl
      simp only [ea, eb]
      unfold f9_quiet_b27 f10_quiet_b31
      by_cases hN : N ≤ j
      · left
        have hN' : nI N ≤ nI j := by rw [leI (by omega) (by omega)]; exact hN
        rw [if_pos hN', if_pos hN']
        exact ⟨_, _, _, _, _, _, _, _, _, rfl, rfl, hH⟩
      have hN' : ¬ nI N ≤ nI j := by rw [leI (by omega) (by omega)]; exact hN
      simp only [if_neg hN']
      rcases pass_c (f9 := σf 0) (A9 := σA 0) (f0 := f0) (A0 := A0) hB' hW' (hH.zero (nI 0)) with ⟨A0', f0', p1, p2⟩ | ⟨A0', f0', As', fs', AL', fL', B', g', p1, p2, p3, p4, p5, p6, ⟨d, d1, d2⟩⟩
      · left
        refine ⟨As, fs, A0', f0', AL, fL, x, B, g1, ?_, ?_, hH⟩
        · rw [p1, Option.bind_some, if_pos rfl]
        · simp (maxSteps := 3000000) (disch := omega) only [litI, letv, eqI, leI, ltI, addI, mulI, subI, clI, addneg, at_nI, put_nI, nI_s, orI, shl1I, ifb0, ifb1, Option.bind_some, gx, ux, Nat.add_zero, Nat.zero_add, Nat.not_lt_zero, false_or, or_false, Nat.mul_zero, Nat.zero_mul, p2, if_true]
      · right
        have g41 : g' 41 = nI d := by
          rw [p5, upd_s, d2, addI, Nat.zero_add]
        have im : ∀ x y, imax x y = f10_max x y := imax_c
        by_cases q : d = 0
        · subst q
          refine ⟨by omega, ((As', fs', A0', f0', AL', fL'), imax x (y + 1), y + 1, nI (j + 1)), (B', g', y + 1, f10_max x (y + 1), nI (j + 1)), ?_, ?_, As', fs', A0', f0', AL', fL', imax x (y + 1), y + 1, B', g', rfl, by rw [im], p4⟩
          · have d2' : f0' 2 = 0 := d2
            simp only [p1, Option.bind_some, if_neg n10, if_pos d2']
            unfold f9_quiet_b61
            rw [nI_s]
          · unfold f10_quiet_b73
            simp (maxSteps := 3000000) (disch := omega) only [litI, letv, eqI, leI, ltI, addI, mulI, subI, clI, addneg, at_nI, put_nI, nI_s, orI, shl1I, ifb0, ifb1, Option.bind_some, gx, ux, Nat.add_zero, Nat.zero_add, Nat.not_lt_zero, false_or, or_false, Nat.mul_zero, Nat.zero_mul, p2, if_false, p3, g41, Nat.le_refl, if_true]
        · have q' : ¬ f0' 2 = 0 := by rw [d2, show (0 : Int32) = nI 0 from rfl, eqI (by omega) (by omega)]; exact q
          refine ⟨by omega, ((As', fs', A0', f0', AL', fL'), imax x 0, 0, nI (j + 1)), (B', g', 0, f10_max x 0, nI (j + 1)), ?_, ?_, As', fs', A0', f0', AL', fL', imax x 0, 0, B', g', rfl, by rw [im], p4⟩
          · simp only [p1, Option.bind_some, if_neg n10, if_neg q']
            unfold f9_quiet_b61
            rw [nI_s]
          · unfold f10_quiet_b73
            simp (maxSteps := 3000000) (disch := omega) only [litI, letv, eqI, leI, ltI, addI, mulI, subI, clI, addneg, at_nI, put_nI, nI_s, orI, shl1I, ifb0, ifb1, Option.bind_some, gx, ux, Nat.add_zero, Nat.zero_add, Nat.not_lt_zero, false_or, or_false, Nat.mul_zero, Nat.zero_mul, p2, if_false, p3, g41, Nat.le_zero, q]) ((As0, fs0, σA 6, σf 6, σA 10, σf 10), 0, 0, 0) (updA μA 1 z, μf, 0, 0, 0) ⟨_, _, _, _, _, _, _, _, _, _, rfl, rfl, hH0⟩
  obtain ⟨As, fs, A0, f0, AL, fL, x, B, g1, k1, k2, ⟨q1, q2, q3, q4⟩⟩ := key
  obtain ⟨y, y1, y2⟩ := trial_end hI0 hz (T := T) (f0 := f0) (fs := fs) (A0 := A0) (As := As) q2 q3 q4
  refine ⟨(x, As, fs, A0, f0, AL, fL), (x, updA B 0 y, g1), k1, ?_, rfl, y2⟩
  refine Eq.trans k2 ?_
  unfold f10_quiet_b86
  rw [y1]
  rfl
theorem man_c {T F : Nat} {w : Nat → Nat} {fs g : Nat → Int32} {As B : Nat → Nat → Int32} (hM : MEN T F w fs As (B 0)) (x : Int32) : (f6_isTold fs As x = 0 ∧ f10_isMan g B x = some 0) ∨ (∃ c, c < 8 ∧ x = nI c ∧ F.testBit c = true ∧ f6_isTold fs As x = 1 ∧ f10_isMan g B x = some 1) := by
  obtain ⟨m1, m2, m3⟩ := hM
  rcases within_c x (A := 0) (B := 7) (a := 0) (b := 7) rfl rfl (by decide) (by decide) with ⟨h, _⟩ | ⟨h, c, _, hc, rfl⟩
  · exact Or.inl ⟨isTold6_no h, isMan10_no h⟩
  · rw [isTold6 m1 m2 (by omega), isMan10 (fun c hc => (m3 c hc).1) (by omega)]
    by_cases q : F.testBit c = true
    · exact Or.inr ⟨c, by omega, rfl, q, by rw [if_pos q], by rw [if_pos q]⟩
    · exact Or.inl ⟨by rw [if_neg q], by rw [if_neg q]⟩
theorem ok_together : OK_together INV := by
  rintro σf σA fW AW μf μA x1 x2 x3 hI
  have hI0 := hI
  obtain ⟨T, nx, hB, hS, hT, hW, hK, hL, hX⟩ := hI
  obtain ⟨hr0, F0, w0, -, hM0⟩ := hS.split
  unfold f9_together f10_together
  have none : ∀ P Q, P = some ((-1 : Int32), σA 4, σf 4, σA 6, σf 6, σA 10, σf 10) → Q = some ((-1 : Int32), μA, μf) → ∃ (r : Int32 × (Nat → Nat → Int32) × (Nat → Int32) × (Nat → Nat → Int32) × (Nat → Int32) × (Nat → Nat → Int32) × (Nat → Int32)) (r' : Int32 × (Nat → Nat → Int32) × (Nat → Int32)), P = some r ∧ Q = some r' ∧ r.1 = (r'.1) ∧ INV (cset (cset (cset σf 4 (r.2.2.1)) 6 (r.2.2.2.2.1)) 10 (r.2.2.2.2.2.2)) (cset (cset (cset σA 4 (r.2.1)) 6 (r.2.2.2.1)) 10 (r.2.2.2.2.2.1)) fW AW (r'.2.2) (r'.2.1) := fun P Q hP hQ => ⟨_, _, hP, hQ, rfl, trial_none hI0⟩
  rcases man_c (g := μf) hM0 x1 with ⟨h1, h2⟩ | ⟨c, hc, rfl, hF1, u1, u2⟩
  · exact none _ _ (by rw [if_pos h1]) (by rw [h2]; rfl)
  rcases man_c (g := μf) hM0 x2 with ⟨h1, h2⟩ | ⟨d, hd, rfl, hF2, v1, v2⟩
  · exact none _ _ (by rw [u1, if_neg n10, if_pos h1]) (by rw [u2, Option.bind_some, if_neg n10, h2]; rfl)
  by_cases hcd : nI c = nI d
  · exact none _ _ (by rw [u1, if_neg n10, v1, if_neg n10, if_pos hcd]) (by rw [u2, Option.bind_some, if_neg n10, v2, Option.bind_some, if_neg n10, if_pos hcd])
  rcases isHours_c x3 with ⟨h1, h2⟩ | ⟨N, n1, n2, rfl, h1, h2⟩
  · exact none _ _ (by rw [u1, if_neg n10, v1, if_neg n10, if_neg hcd, h1, Option.bind_some, if_pos rfl]) (by rw [u2, Option.bind_some, if_neg n10, v2, Option.bind_some, if_neg n10, if_neg hcd, if_pos h2])
  rw [u1, if_neg n10, v1, if_neg n10, if_neg hcd, h1, Option.bind_some, if_neg n10, u2, Option.bind_some, if_neg n10, v2, Option.bind_some, if_neg n10, if_neg hcd, h2, if_neg n10]
  obtain ⟨As0, fs0, z, e1, e2, hz, -, h3c, hbeg⟩ := trial_begin hB hS hW hL
  rw [e1, Option.bind_some, e2, Option.bind_some]
  simp only [letv]
  obtain ⟨hH0, hB', hW'⟩ := hbeg μf (fun _ _ _ => rfl)
  -- where they are, in class and reference
  have wh : ∀ {fL : Nat → Int32} {AL : Nat → Nat → Int32} {fs : Nat → Int32} {As : Nat → Nat → Int32} {g : Nat → Int32} {B : Nat → Nat → Int32}, HS T fL AL fs As g μf B (updA μA 1 z) → ∃ a b, a < 16 ∧ b < 16 ∧ As 3 c = nI a ∧ As 3 d = nI b ∧ B 0 (56 + c) = nI a ∧ B 0 (56 + d) = nI b := by
    intro fL AL fs As g B h
    obtain ⟨hr, F, w, -, m1, m2, m3⟩ := h.1.split
    exact ⟨w c, w d, (m3 c hc).2.1, (m3 d hd).2.1, (m3 c hc).2.2.1, (m3 d hd).2.2.1, (m3 c hc).2.2.2.1, (m3 d hd).2.2.2.1⟩
  have fin : ∀ (a b : Nat) (B : Nat → Nat → Int32) (g : Nat → Int32) (l : Int32), a < 16 → b < 16 → B 0 (56 + c) = nI a → B 0 (56 + d) = nI b → f10_together_b101 (nI c) (nI d) (nI N) B g l = f10_together_b127 (nI c) (nI d) (nI N) B g l (if a = b then 1 else 0) := by
    intro a b B g l ha hb w1 w2
    unfold f10_together_b101
    simp (maxSteps := 3000000) (disch := omega) only [litI, letv, eqI, leI, ltI, addI, mulI, subI, clI, addneg, at_nI, put_nI, nI_s, orI, shl1I, ifb0, ifb1, Option.bind_some, gx, ux, Nat.add_zero, Nat.zero_add, Nat.not_lt_zero, false_or, or_false, Nat.mul_zero, Nat.zero_mul, if_neg, w1, w2]
    by_cases q : a = b
    · simp (maxSteps := 3000000) (disch := omega) only [q, if_true]
    · simp (maxSteps := 3000000) (disch := omega) only [q, if_false]
  obtain ⟨a0, b0, ha0, hb0, w1, w2, w3, w4⟩ := wh hH0
  have s1 : σA 3 3 c = nI a0 := (h3c c hc).symm.trans w1
  have s2 : σA 3 3 d = nI b0 := (h3c d hd).symm.trans w2
  have w3' : μA 0 (56 + c) = nI a0 := w3
  have w4' : μA 0 (56 + d) = nI b0 := w4
  by_cases heq : a0 = b0
  · -- they are at one place now
    obtain ⟨y, y1, y2⟩ := trial_end hI0 hz (T := T) (f0 := σf 6) (fs := σf 4) (A0 := σA 6) (As := σA 4) hH0.2.1 hH0.2.2.1 hH0.2.2.2
    refine ⟨(0, σA 4, σf 4, σA 6, σf 6, σA 10, σf 10), (0, updA (updA μA 1 z) 0 y, μf), ?_, ?_, rfl, y2⟩
    · rw [at_nI hc (by decide), at_nI hd (by decide), s1, s2, heq, if_pos rfl]
    · obtain ⟨n, hn⟩ : ∃ n, NF = n + 1 := ⟨NF - 1, by have := NF_ge; omega⟩
      rw [hn]
      show f10_together_b48 (nI c) (nI d) (nI N) (f10_together_l48 (nI c) (nI d) (nI N) n) (updA μA 1 z) μf 0 = _
      unfold f10_together_b48
      rw [fin a0 b0 _ _ _ ha0 hb0 w3 w4]
      unfold f10_together_b127
      simp (maxSteps := 3000000) (disch := omega) only [litI, letv, eqI, leI, ltI, addI, mulI, subI, clI, addneg, at_nI, put_nI, nI_s, orI, shl1I, ifb0, ifb1, Option.bind_some, gx, ux, Nat.add_zero, Nat.zero_add, Nat.not_lt_zero, false_or, or_false, Nat.mul_zero, Nat.zero_mul, if_neg, w3, w4, heq, if_true, y1]
  have heq' : ¬ σA 3 3 c = σA 3 3 d := by rw [s1, s2, eqI (by omega) (by omega)]; exact heq
  rw [at_nI hc (by decide), at_nI hd (by decide), if_neg heq']
  have key := loop_rel2 (fun n (s : SSt × Int32) => f9_together_l77 (σf 0) (σA 0) (σf 2) (σA 2) (σf 3) (σA 3) fW AW (nI c) (nI d) (nI N) n s.1.1 s.1.2.1 s.1.2.2.1 s.1.2.2.2.1 s.1.2.2.2.2.1 s.1.2.2.2.2.2 s.2) (fun n (s : (Nat → Nat → Int32) × (Nat → Int32) × Int32) => f10_together_l48 (nI c) (nI d) (nI N) n s.1 s.2.1 s.2.2) N
    (fun j s t => ∃ As fs A0 f0 AL fL B g1, s = ((As, fs, A0, f0, AL, fL), nI (j + 1)) ∧ t = (B, g1, nI j) ∧ HS T fL AL fs As g1 μf B (updA μA 1 z) ∧ ¬ B 0 (56 + c) = B 0 (56 + d))
    (fun P Q => ∃ As fs A0 f0 AL fL x B g1 s l, P = some (x, As, fs, A0, f0, AL, fL) ∧ Q = f10_together_b127 (nI c) (nI d) (nI N) B g1 l s ∧ x = (if s = 0 then -2 else l) ∧ HS T fL AL fs As g1 μf B (updA μA 1 z)) (by omega) (by
      rintro n m j s t hj ⟨As, fs, A0, f0, AL, fL, B, g1, rfl, rfl, hH, hne⟩
      have ea : ∀ n, f9_together_l77 (σf 0) (σA 0) (σf 2) (σA 2) (σf 3) (σA 3) fW AW (nI c) (nI d) (nI N) (n + 1) As fs A0 f0 AL fL (nI (j + 1)) = f9_together_b77 (σf 0) (σA 0) (σf 2) (σA 2) (σf 3) (σA 3) fW AW (nI c) (nI d) (nI N) (f9_together_l77 (σf 0) (σA 0) (σf 2) (σA 2) (σf 3) (σA 3) fW AW (nI c) (nI d) (nI N) n) As fs A0 f0 AL fL (nI (j + 1)) := fun _ => rfl
      have eb : ∀ m B g i, f10_together_l48 (nI c) (nI d) (nI N) (m + 1) B g i = f10_together_b48 (nI c) (nI d) (nI N) (f10_together_l48 (nI c) (nI d) (nI N) m) B g i := fun _ _ _ _ => rfl
      have eb2 := eb (m + 1) B g1 (nI j)
      simp only [ea, eb2]
      obtain ⟨a, b, ha, hb, x1, x2, x3, x4⟩ := wh hH
      have hab : ¬ a = b := by rw [x3, x4, eqI (by omega) (by omega)] at hne; exact hne
      have f1 := fin a b B g1 (nI j) ha hb x3 x4
      rw [if_neg hab] at f1
      have eb3 : f10_together_b48 (nI c) (nI d) (nI N) (f10_together_l48 (nI c) (nI d) (nI N) (m + 1)) B g1 (nI j) = if nI N ≤ nI j then f10_together_b101 (nI c) (nI d) (nI N) B g1 (nI j) else if 9999 ≤ gx (B 0) 74 then f10_together_b101 (nI c) (nI d) (nI N) B g1 (nI j) else (f10_hourGoes g1 B).bind fun q_11 => f10_together_l48 (nI c) (nI d) (nI N) (m + 1) q_11.1 q_11.2 (nI j + 1) := by
        unfold f10_together_b48
        simp (maxSteps := 3000000) (disch := omega) only [litI, letv, eqI, leI, ltI, addI, mulI, subI, clI, addneg, at_nI, put_nI, nI_s, orI, shl1I, ifb0, ifb1, Option.bind_some, gx, ux, Nat.add_zero, Nat.zero_add, Nat.not_lt_zero, false_or, or_false, Nat.mul_zero, Nat.zero_mul, if_neg, x3, x4, hab, if_false]
      rw [eb3]
      unfold f9_together_b77
      by_cases hN : N ≤ j
      · left
        have hN' : nI N ≤ nI j := by rw [leI (by omega) (by omega)]; exact hN
        rw [if_pos hN', if_pos (show nI N < nI (j + 1) by rw [ltI (by omega) (by omega)]; omega), f1]
        exact ⟨_, _, _, _, _, _, _, _, _, _, _, rfl, rfl, rfl, hH⟩
      have hN' : ¬ nI N ≤ nI j := by rw [leI (by omega) (by omega)]; exact hN
      rw [if_neg hN', if_neg (show ¬ nI N < nI (j + 1) by rw [ltI (by omega) (by omega)]; omega)]
      rcases pass_c (f9 := σf 0) (A9 := σA 0) (f0 := f0) (A0 := A0) hB' hW' hH with ⟨A0', f0', p1, p2⟩ | ⟨A0', f0', As', fs', AL', fL', B', g', p1, p2, p3, p4, p5, p6, p7⟩
      · left
        refine ⟨As, fs, A0', f0', AL, fL, -2, B, g1, 0, nI j, ?_, ?_, rfl, hH⟩
        · rw [p1, Option.bind_some, if_pos rfl]
        · simp (maxSteps := 3000000) (disch := omega) only [litI, letv, eqI, leI, ltI, addI, mulI, subI, clI, addneg, at_nI, put_nI, nI_s, orI, shl1I, ifb0, ifb1, Option.bind_some, gx, ux, Nat.add_zero, Nat.zero_add, Nat.not_lt_zero, false_or, or_false, Nat.mul_zero, Nat.zero_mul, p2, if_true, f1]
      · obtain ⟨a', b', ha', hb', z1, z2, z3, z4⟩ := wh p4
        by_cases hab' : a' = b'
        · left
          have f2 := fin a' b' B' g' (nI (j + 1)) ha' hb' z3 z4
          rw [if_pos hab'] at f2
          refine ⟨As', fs', A0', f0', AL', fL', nI (j + 1), B', g', 1, nI (j + 1), ?_, ?_, rfl, p4⟩
          · simp only [p1, Option.bind_some, if_neg n10]
            rw [at_nI hc (by decide), at_nI hd (by decide), z1, z2, hab', if_pos rfl]
          · simp (maxSteps := 3000000) (disch := omega) only [litI, letv, eqI, leI, ltI, addI, mulI, subI, clI, addneg, at_nI, put_nI, nI_s, orI, shl1I, ifb0, ifb1, Option.bind_some, gx, ux, Nat.add_zero, Nat.zero_add, Nat.not_lt_zero, false_or, or_false, Nat.mul_zero, Nat.zero_mul, p2, if_false, p3]
            rw [eb]
            unfold f10_together_b48
            simp (maxSteps := 3000000) (disch := omega) only [litI, letv, eqI, leI, ltI, addI, mulI, subI, clI, addneg, at_nI, put_nI, nI_s, orI, shl1I, ifb0, ifb1, Option.bind_some, gx, ux, Nat.add_zero, Nat.zero_add, Nat.not_lt_zero, false_or, or_false, Nat.mul_zero, Nat.zero_mul, if_neg, z3, z4, hab', if_true]
            exact f2
        · right
          refine ⟨by omega, ((As', fs', A0', f0', AL', fL'), nI (j + 1 + 1)), (B', g', nI (j + 1)), ?_, ?_, As', fs', A0', f0', AL', fL', B', g', rfl, rfl, p4, ?_⟩
          · simp only [p1, Option.bind_some, if_neg n10]
            rw [at_nI hc (by decide), at_nI hd (by decide), z1, z2, if_neg (by rw [eqI (by omega) (by omega)]; exact hab'), nI_s]
          · simp (maxSteps := 3000000) (disch := omega) only [litI, letv, eqI, leI, ltI, addI, mulI, subI, clI, addneg, at_nI, put_nI, nI_s, orI, shl1I, ifb0, ifb1, Option.bind_some, gx, ux, Nat.add_zero, Nat.zero_add, Nat.not_lt_zero, false_or, or_false, Nat.mul_zero, Nat.zero_mul, p2, if_false, p3]
          · rw [z3, z4, eqI (by omega) (by omega)]; exact hab') ((As0, fs0, σA 6, σf 6, σA 10, σf 10), 1) (updA μA 1 z, μf, 0) ⟨_, _, _, _, _, _, _, _, rfl, rfl, hH0, by rw [w3, w4, eqI (by omega) (by omega)]; exact heq⟩
  obtain ⟨As, fs, A0, f0, AL, fL, x, B, g1, s, l, k1, k2, k3, ⟨q1, q2, q3, q4⟩⟩ := key
  obtain ⟨y, y1, y2⟩ := trial_end hI0 hz (T := T) (f0 := f0) (fs := fs) (A0 := A0) (As := As) q2 q3 q4
  refine ⟨(x, As, fs, A0, f0, AL, fL), (if s = 0 then -2 else l, updA B 0 y, g1), ?_, ?_, k3, y2⟩
  · exact k1
  refine Eq.trans k2 ?_
  unfold f10_together_b127
  rw [y1]
  simp only [letv, Option.bind_some]
  by_cases q : s = 0
  · rw [if_pos q, if_pos q]
  · rw [if_neg q, if_neg q]
