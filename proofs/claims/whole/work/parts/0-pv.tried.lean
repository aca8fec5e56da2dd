theorem trial_begin {σf : Nat → Nat → Int32} {σA : Nat → Nat → Nat → Int32} {fW : Nat → Nat → Int32} {AW : Nat → Nat → Nat → Int32} {μf : Nat → Int32} {μA : Nat → Nat → Int32} {T : Nat} {nx : Nat → Nat} (hB : RB T nx (σf 2 0) (μf 6) (σA 2 1) (μA 3)) (hS : RS T (σf 3) (σA 3) (μA 0)) (hW : RW fW AW (μA 4) (μA 5)) (hL : RLaw (σf 10 9) (μf 17) (σA 10) (μA 24) (μA 25) (μA 26) (μA 27) (μA 28)) : ∃ As fs z, f6_copy (σf 4) (σA 4) (σf 3) (σA 3) = some (As, fs) ∧ f10_copies 76 (μA 0) 76 (μA 1) = some z ∧ (∀ j, j < 76 → z j = μA 0 j) ∧ As 3 0 = As 3 0 ∧ (∀ c, c < 8 → As 3 c = σA 3 3 c) ∧ ∀ g, (∀ j, j ≠ 41 → j ≠ 42 → g j = μf j) → HS T (σf 10) (σA 10) fs As g g (updA μA 1 z) (updA μA 1 z) ∧ RB T nx (σf 2 0) (g 6) (σA 2 1) (updA μA 1 z 3) ∧ RW fW AW (updA μA 1 z 4) (updA μA 1 z 5) := by
  obtain ⟨A', e1, h16, h8⟩ := copy6 (σf 4) (σf 3) (σA 4) (σA 3)
  obtain ⟨zs, e2, hz⟩ := copies10 (μA 0) (μA 1)
  refine ⟨A', _, zs, e1, e2, hz, rfl, fun c hc => (h8 c hc).1, fun g hg => ⟨⟨?_, ?_, fun _ _ _ _ => rfl, fun _ _ _ => rfl⟩, ?_, ?_⟩⟩
  · refine hS.congr ?_ h16 h8 (fun j _ => by rw [updA_n (by decide)])
    intro k hk1 hk2
    have hk : k = 5 ∨ k = 6 ∨ k = 7 ∨ k = 8 ∨ k = 9 := by omega
    rcases hk with rfl | rfl | rfl | rfl | rfl <;> rfl
  · exact LAWR.congr (fL := σf 10) (AL := σA 10) (g := μf) (B := μA) hL rfl (fun _ _ => rfl) (hg 17 (by decide) (by decide)) (fun j h1 h2 => updA_n (by omega))
  · rw [hg 6 (by decide) (by decide), updA_n (by decide)]; exact hB
  · rw [updA_n (by decide), updA_n (by decide)]; exact hW
theorem trial_end {σf : Nat → Nat → Int32} {σA : Nat → Nat → Nat → Int32} {fW : Nat → Nat → Int32} {AW : Nat → Nat → Nat → Int32} {μf : Nat → Int32} {μA : Nat → Nat → Int32} (hI : INV σf σA fW AW μf μA) {z : Nat → Int32} (hz : ∀ j, j < 76 → z j = μA 0 j) {T : Nat} {f0 fs fL g : Nat → Int32} {A0 As AL B : Nat → Nat → Int32} (hL : LAWR fL AL g B) (h1 : ∀ j, j ≠ 0 → j ≠ 29 → j ≠ 30 → B j = updA μA 1 z j) (h2 : ∀ j, j ≠ 41 → j ≠ 42 → g j = μf j) : ∃ y, f10_copies 76 (B 1) 76 (B 0) = some y ∧ INV (cset (cset (cset σf 4 fs) 6 f0) 10 fL) (cset (cset (cset σA 4 As) 6 A0) 10 AL) fW AW g (updA B 0 y) := by
  obtain ⟨T, nx, hB, hS, hT, hW, hK, -, hX⟩ := hI
  obtain ⟨y, e, hy⟩ := copies10 (B 1) (B 0)
  refine ⟨y, e, T, nx, ?_, ?_, ?_, ?_, ?_, ?_, ?_⟩
  · show RB T nx (σf 2 0) (g 6) (σA 2 1) (updA B 0 y 3)
    rw [updA_n (by decide), h1 3 (by decide) (by decide) (by decide), updA_n (by decide), h2 6 (by decide) (by decide)]; exact hB
  · show RS T (σf 3) (σA 3) (updA B 0 y 0)
    rw [updA_s]
    refine hS.congr (fun _ _ _ => rfl) (fun _ _ _ _ => rfl) (fun _ _ => ⟨rfl, rfl⟩) (fun j hj => ?_)
    rw [hy j hj, h1 1 (by decide) (by decide) (by decide), updA_s, hz j hj]
  · show RT (σf 1 1) (g 8) (σA 1 0) (updA B 0 y 7)
    rw [updA_n (by decide), h1 7 (by decide) (by decide) (by decide), updA_n (by decide), h2 8 (by decide) (by decide)]; exact hT
  · show RW fW AW (updA B 0 y 4) (updA B 0 y 5)
    rw [updA_n (by decide), updA_n (by decide), h1 4 (by decide) (by decide) (by decide), h1 5 (by decide) (by decide) (by decide), updA_n (by decide), updA_n (by decide)]; exact hW
  · show RK T (σf 0 14) (g 51) (σf 5) (σA 5) (updA B 0 y 2)
    rw [updA_n (by decide), h1 2 (by decide) (by decide) (by decide), updA_n (by decide), h2 51 (by decide) (by decide)]; exact hK
  · exact hL.congr rfl (fun _ _ => rfl) rfl (fun j h1 h2 => updA_n (by omega))
  · show RX (σA 12 0) (updA B 0 y 43)
    rw [updA_n (by decide), h1 43 (by decide) (by decide) (by decide), updA_n (by decide)]; exact hX
theorem trial_none {σf : Nat → Nat → Int32} {σA : Nat → Nat → Nat → Int32} {fW : Nat → Nat → Int32} {AW : Nat → Nat → Nat → Int32} {μf : Nat → Int32} {μA : Nat → Nat → Int32} (hI : INV σf σA fW AW μf μA) : INV (cset (cset (cset σf 4 (σf 4)) 6 (σf 6)) 10 (σf 10)) (cset (cset (cset σA 4 (σA 4)) 6 (σA 6)) 10 (σA 10)) fW AW μf μA := by
  rw [cset_id, cset_id, cset_id, cset_id, cset_id, cset_id]
  exact hI
theorem guard_c {T F : Nat} {w : Nat → Nat} {fs g : Nat → Int32} {As B : Nat → Nat → Int32} (hM : MEN T F w fs As (B 0)) : ∃ r, f6_stoodAt fs As = some r ∧ f10_guarded g B = some r := by
  obtain ⟨m1, m2, m3⟩ := hM
  unfold f6_stoodAt f10_guarded
  refine loop_rel (fun n (s : Int32 × Int32) => f6_stoodAt_l4 fs As n s.1 s.2) (fun n (s : Int32 × Int32) => f10_guarded_l4 g B n s.1 s.2) 8
    (fun j s t => ∃ x, s = (x, nI j) ∧ t = (x, nI j)) (fun a b => ∃ r, a = some r ∧ b = some r) (by decide) ?_ (0, 0) (0, 0) ⟨_, rfl, rfl⟩
  rintro n m j s t hj ⟨x, rfl, rfl⟩
  simp (maxSteps := 3000000) (disch := omega) only [f6_stoodAt_l4, f6_stoodAt_b4, f10_guarded_l4, f10_guarded_b4, litI, letv, eqI, leI, ltI, addI, mulI, subI, clI, addneg, at_nI, put_nI, nI_s, orI, shl1I, ifb0, ifb1, Option.bind_some, gx, ux, Nat.add_zero, Nat.zero_add, Nat.not_lt_zero, false_or, or_false, Nat.mul_zero, Nat.zero_mul]
  by_cases h : 8 ≤ j
  · left
    simp (maxSteps := 3000000) (disch := omega) only [if_pos h]
    exact ⟨_, rfl, rfl⟩
  right
  obtain ⟨a1, a2, a3, a4, a5⟩ := m3 j (by omega)
  simp (maxSteps := 3000000) (disch := omega) only [if_neg h, man9 m1 m2, man10 (fun c hc => (m3 c hc).1), litI, letv, eqI, leI, ltI, addI, mulI, subI, clI, addneg, at_nI, put_nI, nI_s, orI, shl1I, ifb0, ifb1, Option.bind_some, gx, ux, Nat.add_zero, Nat.zero_add, Nat.not_lt_zero, false_or, or_false, Nat.mul_zero, Nat.zero_mul, if_neg, a3, a4]
  by_cases q : F.testBit j = true
  · simp (maxSteps := 3000000) (disch := omega) only [q, eq_self, not_true, if_false]
    exact ⟨by omega, (_, _), (_, _), rfl, rfl, _, rfl, rfl⟩
  · simp (maxSteps := 3000000) (disch := omega) only [q, Bool.false_eq_true, not_false_eq_true, if_true]
    exact ⟨by omega, (_, _), (_, _), rfl, rfl, _, rfl, rfl⟩
theorem imax_c (x y : Int32) : imax x y = f10_max x y := by
  unfold f10_max
  show (if x < y then y else x) = _
  by_cases h : x ≤ y
  · rw [if_pos h]
    by_cases h2 : x < y
    · rw [if_pos h2]
    · rw [if_neg h2]; exact Int32.le_antisymm h (Int32.not_lt.mp h2)
  · rw [if_neg h, if_neg (fun q => h (Int32.le_of_lt q))]
abbrev SSt : Type := (Nat → Nat → Int32) × (Nat → Int32) × (Nat → Nat → Int32) × (Nat → Int32) × (Nat → Nat → Int32) × (Nat → Int32)
theorem ok_seen : OK_seen INV := by
  rintro σf σA fW AW μf μA x1 hI
  have hI0 := hI
  obtain ⟨T, nx, hB, hS, hT, hW, hK, hL, hX⟩ := hI
  unfold f9_seen f10_seen
  rcases isHours_c x1 with ⟨h1, h2⟩ | ⟨N, n1, n2, rfl, h1, h2⟩
  · refine ⟨(-1, σA 4, σf 4, σA 6, σf 6, σA 10, σf 10), (-1, μA, μf), ?_, ?_, rfl, trial_none hI0⟩
    · rw [h1, Option.bind_some, if_pos rfl]
    · rw [if_pos h2]
  obtain ⟨As0, fs0, z, e1, e2, hz, -, -, hbeg⟩ := trial_begin hB hS hW hL
  rw [h1, Option.bind_some, if_neg n10, h2, if_neg n10, e1, Option.bind_some, e2, Option.bind_some]
  simp only [letv]
  obtain ⟨hH0, hB', hW'⟩ := hbeg μf (fun _ _ _ => rfl)
  have key := loop_rel (fun n (s : SSt × Int32 × Int32) => f9_seen_l24 (σf 0) (σA 0) (σf 2) (σA 2) (σf 3) (σA 3) fW AW (nI N) n s.1.1 s.1.2.1 s.1.2.2.1 s.1.2.2.2.1 s.1.2.2.2.2.1 s.1.2.2.2.2.2 s.2.1 s.2.2) (fun n (s : (Nat → Nat → Int32) × (Nat → Int32) × Int32 × Int32) => f10_seen_l28 (nI N) n s.1 s.2.1 s.2.2.1 s.2.2.2) N
    (fun j s t => ∃ As fs A0 f0 AL fL x B g1, s = ((As, fs, A0, f0, AL, fL), x, nI j) ∧ t = (B, g1, x, nI j) ∧ HS T fL AL fs As g1 μf B (updA μA 1 z))
    (fun a b => ∃ As fs A0 f0 AL fL x B g1, a = some (x, As, fs, A0, f0, AL, fL) ∧ b = f10_seen_b63 (nI N) B g1 x ∧ HS T fL AL fs As g1 μf B (updA μA 1 z)) (by omega) (by
      rintro n m j s t hj ⟨As, fs, A0, f0, AL, fL, x, B, g1, rfl, rfl, hH⟩
      show (∃ As' fs' A0' f0' AL' fL' x' B' g1', f9_seen_b24 (σf 0) (σA 0) (σf 2) (σA 2) (σf 3) (σA 3) fW AW (nI N) (f9_seen_l24 (σf 0) (σA 0) (σf 2) (σA 2) (σf 3) (σA 3) fW AW (nI N) n) As fs A0 f0 AL fL x (nI j) = some (x', As', fs', A0', f0', AL', fL') ∧ f10_seen_b28 (nI N) (f10_seen_l28 (nI N) m) B g1 x (nI j) = f10_seen_b63 (nI N) B' g1' x' ∧ HS T fL' AL' fs' As' g1' μf B' (updA μA 1 z)) ∨ (j < N ∧ ∃ (s' : SSt × Int32 × Int32) (t' : (Nat → Nat → Int32) × (Nat → Int32) × Int32 × Int32), f9_seen_b24 (σf 0) (σA 0) (σf 2) (σA 2) (σf 3) (σA 3) fW AW (nI N) (f9_seen_l24 (σf 0) (σA 0) (σf 2) (σA 2) (σf 3) (σA 3) fW AW (nI N) n) As fs A0 f0 AL fL x (nI j) = _ ∧ f10_seen_b28 (nI N) (f10_seen_l28 (nI N) m) B g1 x (nI j) = _ ∧ _)
      unfold f9_seen_b24 f10_seen_b28
      by_cases hN : N ≤ j
      · left
        have hN' : nI N ≤ nI j := by rw [leI (by omega) (by omega)]; exact hN
        rw [if_pos hN', if_pos hN']
        exact ⟨_, _, _, _, _, _, _, _, _, rfl, rfl, hH⟩
      have hN' : ¬ nI N ≤ nI j := by rw [leI (by omega) (by omega)]; exact hN
      rw [if_neg hN', if_neg hN']
      rcases pass_c (f9 := σf 0) (A9 := σA 0) (f0 := f0) (A0 := A0) hB' hW' hH with ⟨A0', f0', p1, p2⟩ | ⟨A0', f0', As', fs', AL', fL', B', g', p1, p2, p3, p4, p5, p6, p7⟩
      · left
        refine ⟨As, fs, A0', f0', AL, fL, x, B, g1, ?_, ?_, hH⟩
        · rw [p1, Option.bind_some, if_pos rfl]
        · simp (maxSteps := 3000000) (disch := omega) only [litI, letv, eqI, leI, ltI, addI, mulI, subI, clI, addneg, at_nI, put_nI, nI_s, orI, shl1I, ifb0, ifb1, Option.bind_some, gx, ux, Nat.add_zero, Nat.zero_add, Nat.not_lt_zero, false_or, or_false, Nat.mul_zero, Nat.zero_mul, p2, if_true]
      · right
        obtain ⟨hr, F, w, -, hM⟩ := p4.1.split
        obtain ⟨r, r1, r2⟩ := guard_c (g := g') hM
        refine ⟨by omega, ((As', fs', A0', f0', AL', fL'), x ||| r, nI (j + 1)), (B', g', x ||| r, nI (j + 1)), ?_, ?_, As', fs', A0', f0', AL', fL', x ||| r, B', g', rfl, rfl, p4⟩
        · rw [p1, Option.bind_some, if_neg n10, r1, Option.bind_some, nI_s]
        · simp (maxSteps := 3000000) (disch := omega) only [litI, letv, eqI, leI, ltI, addI, mulI, subI, clI, addneg, at_nI, put_nI, nI_s, orI, shl1I, ifb0, ifb1, Option.bind_some, gx, ux, Nat.add_zero, Nat.zero_add, Nat.not_lt_zero, false_or, or_false, Nat.mul_zero, Nat.zero_mul, p2, if_false, p3, r2]) ((As0, fs0, σA 6, σf 6, σA 10, σf 10), 0, 0) (updA μA 1 z, μf, 0, 0) ⟨_, _, _, _, _, _, _, _, _, rfl, rfl, hH0⟩
  obtain ⟨As, fs, A0, f0, AL, fL, x, B, g1, k1, k2, ⟨q1, q2, q3, q4⟩⟩ := key
  obtain ⟨y, y1, y2⟩ := trial_end hI0 hz (T := T) (f0 := f0) (fs := fs) (A0 := A0) (As := As) q2 q3 q4
  refine ⟨(x, As, fs, A0, f0, AL, fL), (x, updA B 0 y, g1), k1, ?_, rfl, y2⟩
  refine Eq.trans k2 ?_
  unfold f10_seen_b63
  rw [y1]
  rfl
theorem ok_alone : OK_alone INV := by
  rintro σf σA fW AW μf μA x1 x2 hI
  have hI0 := hI
  obtain ⟨T, nx, hB, hS, hT, hW, hK, hL, hX⟩ := hI
  unfold f9_alone f10_alone
  obtain ⟨b1, b2, b3, b4, b5, b6, b7⟩ := hB
  have hB : RB T nx (σf 2 0) (μf 6) (σA 2 1) (μA 3) := ⟨b1, b2, b3, b4, b5, b6, b7⟩
  rcases told_c b1 b2 b3 x1 (AB := σA 2) (A := μA) with ⟨h1, h2⟩ | ⟨p, hp, rfl, hTp, u1, u2⟩
  · exact ⟨(-1, σA 4, σf 4, σA 6, σf 6, σA 10, σf 10), (-1, μA, μf), by rw [if_pos h1], by rw [if_pos h2], rfl, trial_none hI0⟩
  rw [u1, u2, if_neg n10, if_neg n10]
  rcases isHours_c x2 with ⟨h1, h2⟩ | ⟨N, n1, n2, rfl, h1, h2⟩
  · refine ⟨(-1, σA 4, σf 4, σA 6, σf 6, σA 10, σf 10), (-1, μA, μf), ?_, ?_, rfl, trial_none hI0⟩
    · rw [h1, Option.bind_some, if_pos rfl]
    · rw [if_pos h2]
  obtain ⟨As0, fs0, z, e1, e2, hz, -, -, hbeg⟩ := trial_begin hB hS hW hL
  rw [h1, Option.bind_some, if_neg n10, h2, if_neg n10, e1, Option.bind_some, e2, Option.bind_some]
  simp only [letv]
  obtain ⟨hH0, hB', hW'⟩ := hbeg μf (fun _ _ _ => rfl)
  have key := loop_rel (fun n (s : SSt × Int32 × Int32 × Int32) => f9_alone_l39 (σf 0) (σA 0) (σf 2) (σA 2) (σf 3) (σA 3) fW AW (nI p) (nI N) n s.1.1 s.1.2.1 s.1.2.2.1 s.1.2.2.2.1 s.1.2.2.2.2.1 s.1.2.2.2.2.2 s.2.1 s.2.2.1 s.2.2.2) (fun n (s : (Nat → Nat → Int32) × (Nat → Int32) × Int32 × Int32 × Int32) => f10_alone_l40 (nI p) (nI N) n s.1 s.2.1 s.2.2.1 s.2.2.2.1 s.2.2.2.2) N
    (fun j s t => ∃ As fs A0 f0 AL fL x y B g1, s = ((As, fs, A0, f0, AL, fL), x, y, nI j) ∧ t = (B, g1, y, x, nI j) ∧ HS T fL AL fs As g1 μf B (updA μA 1 z))
    (fun a b => ∃ As fs A0 f0 AL fL x B g1, a = some (x, As, fs, A0, f0, AL, fL) ∧ b = f10_alone_b93 (nI p) (nI N) B g1 x ∧ HS T fL AL fs As g1 μf B (updA μA 1 z)) (by omega) (by
      rintro n m j s t hj ⟨As, fs, A0, f0, AL, fL, x, y, B, g1, rfl, rfl, hH⟩
      have ea : ∀ n, f9_alone_l39 (σf 0) (σA 0) (σf 2) (σA 2) (σf 3) (σA 3) fW AW (nI p) (nI N) (n + 1) As fs A0 f0 AL fL x y (nI j) = f9_alone_b39 (σf 0) (σA 0) (σf 2) (σA 2) (σf 3) (σA 3) fW AW (nI p) (nI N) (f9_alone_l39 (σf 0) (σA 0) (σf 2) (σA 2) (σf 3) (σA 3) fW AW (nI p) (nI N) n) As fs A0 f0 AL fL x y (nI j) := fun _ => rfl
      have eb : ∀ m, f10_alone_l40 (nI p) (nI N) (m + 1) B g1 y x (nI j) = f10_alone_b40 (nI p) (nI N) (f10_alone_l40 (nI p) (nI N) m) B g1 y x (nI j) := fun _ => rfl
      simp only [ea, eb]
      unfold f9_alone_b39 f10_alone_b40
      by_cases hN : N ≤ j
      · left
        have hN' : nI N ≤ nI j := by rw [leI (by omega) (by omega)]; exact hN
        rw [if_pos hN', if_pos hN']
        exact ⟨_, _, _, _, _, _, _, _, _, rfl, rfl, hH⟩
      have hN' : ¬ nI N ≤ nI j := by rw [leI (by omega) (by omega)]; exact hN
      simp only [if_neg hN']
      rcases pass_c (f9 := σf 0) (A9 := σA 0) (f0 := f0) (A0 := A0) hB' hW' hH with ⟨A0', f0', p1, p2⟩ | ⟨A0', f0', As', fs', AL', fL', B', g', p1, p2, p3, p4, p5, p6, p7⟩
      · left
        refine ⟨As, fs, A0', f0', AL, fL, x, B, g1, ?_, ?_, hH⟩
        · rw [p1, Option.bind_some, if_pos rfl]
        · simp (maxSteps := 3000000) (disch := omega) only [litI, letv, eqI, leI, ltI, addI, mulI, subI, clI, addneg, at_nI, put_nI, nI_s, orI, shl1I, ifb0, ifb1, Option.bind_some, gx, ux, Nat.add_zero, Nat.zero_add, Nat.not_lt_zero, false_or, or_false, Nat.mul_zero, Nat.zero_mul, p2, if_true]
      · right
        obtain ⟨hr, F, w, -, hM⟩ := p4.1.split
        have r1 := hM.at6 hp
        have r2 := hM.at10 (g := g') hp
        have c3 := stands_lt F w p
        have im : ∀ x y, imax x y = f10_max x y := imax_c
        by_cases q : stands F w p = 0
        · refine ⟨by omega, ((As', fs', A0', f0', AL', fL'), imax x (y + 1), y + 1, nI (j + 1)), (B', g', y + 1, f10_max x (y + 1), nI (j + 1)), ?_, ?_, As', fs', A0', f0', AL', fL', imax x (y + 1), y + 1, B', g', rfl, by rw [im], p4⟩
          · rw [p1, Option.bind_some, if_neg n10, r1, Option.bind_some, q, if_pos (show nI 0 = (0 : Int32) from rfl)]
            unfold f9_alone_b75
            rw [nI_s]
          · unfold f10_alone_b78
            simp (maxSteps := 3000000) (disch := omega) only [litI, letv, eqI, leI, ltI, addI, mulI, subI, clI, addneg, at_nI, put_nI, nI_s, orI, shl1I, ifb0, ifb1, Option.bind_some, gx, ux, Nat.add_zero, Nat.zero_add, Nat.not_lt_zero, false_or, or_false, Nat.mul_zero, Nat.zero_mul, p2, if_false, p3, r2, q, if_true]
        · have q' : ¬ nI (stands F w p) = 0 := by rw [show (0 : Int32) = nI 0 from rfl, eqI (by omega) (by omega)]; exact q
          refine ⟨by omega, ((As', fs', A0', f0', AL', fL'), imax x 0, 0, nI (j + 1)), (B', g', 0, f10_max x 0, nI (j + 1)), ?_, ?_, As', fs', A0', f0', AL', fL', imax x 0, 0, B', g', rfl, by rw [im], p4⟩
          · rw [p1, Option.bind_some, if_neg n10, r1, Option.bind_some, if_neg q']
            unfold f9_alone_b75
            rw [nI_s]
          · unfold f10_alone_b78
            simp (maxSteps := 3000000) (disch := omega) only [litI, letv, eqI, leI, ltI, addI, mulI, subI, clI, addneg, at_nI, put_nI, nI_s, orI, shl1I, ifb0, ifb1, Option.bind_some, gx, ux, Nat.add_zero, Nat.zero_add, Nat.not_lt_zero, false_or, or_false, Nat.mul_zero, Nat.zero_mul, p2, if_false, p3, r2, q]) ((As0, fs0, σA 6, σf 6, σA 10, σf 10), 0, 0, 0) (updA μA 1 z, μf, 0, 0, 0) ⟨_, _, _, _, _, _, _, _, _, _, rfl, rfl, hH0⟩
  obtain ⟨As, fs, A0, f0, AL, fL, x, B, g1, k1, k2, ⟨q1, q2, q3, q4⟩⟩ := key
  obtain ⟨y, y1, y2⟩ := trial_end hI0 hz (T := T) (f0 := f0) (fs := fs) (A0 := A0) (As := As) q2 q3 q4
  refine ⟨(x, As, fs, A0, f0, AL, fL), (x, updA B 0 y, g1), k1, ?_, rfl, y2⟩
  refine Eq.trans k2 ?_
  unfold f10_alone_b93
  rw [y1]
  rfl
