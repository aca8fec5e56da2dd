/-! HOURS that go by, HOURS that are tried -/
/-- two loops side by side; the second one may need a turn more -/
theorem loop_rel2 {σ τ R R' : Type} (L : Nat → σ → Option R) (M : Nat → τ → Option R') (N : Nat) (P : Nat → σ → τ → Prop) (Q : Option R → Option R' → Prop) (hN : N < 2 ^ 199)
    (h : ∀ n m j s t, j ≤ N → P j s t → Q (L (n + 1) s) (M (m + 2) t) ∨ (j < N ∧ ∃ s' t', L (n + 1) s = L n s' ∧ M (m + 2) t = M (m + 1) t' ∧ P (j + 1) s' t')) (s : σ) (t : τ) (hP : P 0 s t) : Q (L NF s) (M NF t) := by
  have key : ∀ (k j : Nat) (s : σ) (t : τ) (n m : Nat), j + k = N → k < n → k + 1 < m → P j s t → Q (L n s) (M m t) := by
    intro k
    induction k with
    | zero =>
      intro j s t n m hj hn hm hP
      obtain ⟨n', rfl⟩ : ∃ i, n = i + 1 := ⟨n - 1, by omega⟩
      obtain ⟨m', rfl⟩ : ∃ i, m = i + 2 := ⟨m - 2, by omega⟩
      rcases h n' m' j s t (by omega) hP with h1 | ⟨h1, _⟩
      · exact h1
      · omega
    | succ k ih =>
      intro j s t n m hj hn hm hP
      obtain ⟨n', rfl⟩ : ∃ i, n = i + 1 := ⟨n - 1, by omega⟩
      obtain ⟨m', rfl⟩ : ∃ i, m = i + 2 := ⟨m - 2, by omega⟩
      rcases h n' m' j s t (by omega) hP with h1 | ⟨h1, s', t', e1, e2, hP'⟩
      · exact h1
      · rw [e1, e2]
        exact ih (j + 1) s' t' n' (m' + 1) (by omega) (by omega) (by omega) hP'
  have := NF_ge
  exact key N 0 s t NF NF (by omega) (by omega) (by omega) hP
/-- what holds between two HOURS: fs, As the state that they change; B, g the reference, B0, g0 where it began -/
def HS (T : Nat) (fL : Nat → Int32) (AL : Nat → Nat → Int32) (fs : Nat → Int32) (As : Nat → Nat → Int32) (g g0 : Nat → Int32) (B B0 : Nat → Nat → Int32) : Prop :=
  RS T fs As (B 0) ∧ LAWR fL AL g B ∧ (∀ j, j ≠ 0 → j ≠ 29 → j ≠ 30 → B j = B0 j) ∧ ∀ j, j ≠ 41 → j ≠ 42 → g j = g0 j
theorem pass_c {T : Nat} {nx : Nat → Nat} {f9 f0 fs fB fL g g0 : Nat → Int32} {A9 A0 As AB AL B B0 : Nat → Nat → Int32} {fW : Nat → Nat → Int32} {AW : Nat → Nat → Nat → Int32} (hB : RB T nx (fB 0) (g0 6) (AB 1) (B0 3)) (hW : RW fW AW (B0 4) (B0 5)) (hH : HS T fL AL fs As g g0 B B0) :
    (∃ A0' f0', f9_passes f9 A9 fB AB fW AW f0 A0 fL AL fs As = some (0, A0', f0', AL, fL, As, fs) ∧ nI 9999 ≤ B 0 74) ∨
    (∃ A0' f0' As' fs' AL' fL' B' g', f9_passes f9 A9 fB AB fW AW f0 A0 fL AL fs As = some (1, A0', f0', AL', fL', As', fs') ∧ ¬ nI 9999 ≤ B 0 74 ∧ f10_hourGoes g B = some (B', g') ∧ HS T fL' AL' fs' As' g' g0 B' B0 ∧ g' 41 = g 41 + f0' 2 ∧ g' 42 = g 42 + f0' 3 ∧ ∃ d, d ≤ 16 ∧ f0' 2 = nI d) := by
  obtain ⟨hS, hL, k1, k2⟩ := hH
  have hSS := hS
  obtain ⟨-, -, ⟨hr, h1, h2, h3, -⟩, -⟩ := hS
  by_cases h : hr < 9999
  · right
    obtain ⟨A0', f0', As', fs', AL', fL', B', g', e1, e2, e3, e4, e5, e6, e7, e8, e9⟩ := hour_c (f0 := f0) (A0 := A0) (g := g) (B := B) (fB := fB) (AB := AB) (nx := nx) (fW := fW) (AW := AW) (by rw [k1 3 (by decide) (by decide) (by decide), k2 6 (by decide) (by decide)]; exact hB) hSS (by rw [k1 4 (by decide) (by decide) (by decide), k1 5 (by decide) (by decide) (by decide)]; exact hW) hL (by rw [h2, ltI (by omega) (by omega)]; exact h)
    refine ⟨A0', f0', As', fs', AL', fL', B', g', ?_, by rw [h3, leI (by omega) (by omega)]; omega, e2, ⟨e3, e4, fun j a b c => (e7 j a b c).trans (k1 j a b c), fun j a b => (e8 j a b).trans (k2 j a b)⟩, e5, e6, e9⟩
    unfold f9_passes
    rw [e1, Option.bind_some, if_neg (fun q => q (Or.inr rfl))]
  · left
    refine ⟨A0, upd (upd f0 2 0) 3 0, ?_, by rw [h3, leI (by omega) (by omega)]; omega⟩
    unfold f9_passes f5_passes
    simp only [letv]
    rw [if_neg (by rw [h2, show (9999 : Int32) = nI 9999 from rfl, ltI (by omega) (by omega)]; exact h), Option.bind_some, if_neg (fun q => q (Or.inl rfl))]
theorem isHours_c (x : Int32) : (f9_isHours x = some 0 ∧ f10_in x 1 240 = 0) ∨ (∃ n, 1 ≤ n ∧ n ≤ 240 ∧ x = nI n ∧ f9_isHours x = some 1 ∧ f10_in x 1 240 = 1) := by
  unfold f9_isHours
  rw [in_eq]
  rcases within_c x (A := 1) (B := 240) (a := 1) (b := 240) rfl rfl (by decide) (by decide) with ⟨h, _⟩ | ⟨h, n, h1, h2, rfl⟩
  · left
    rw [h]
    exact ⟨by rw [if_neg (fun q => q (Or.inl rfl))], rfl⟩
  · right
    rw [h]
    exact ⟨n, h1, h2, rfl, by rw [if_neg (fun q => q (Or.inr rfl))], rfl⟩
theorem HS.begin {σf : Nat → Nat → Int32} {σA : Nat → Nat → Nat → Int32} {μf g : Nat → Int32} {μA : Nat → Nat → Int32} {T : Nat} (hS : RS T (σf 3) (σA 3) (μA 0)) (hL : LAWR (σf 10) (σA 10) μf μA) (hg : ∀ j, j ≠ 41 → j ≠ 42 → g j = μf j) : HS T (σf 10) (σA 10) (σf 3) (σA 3) g g μA μA :=
  ⟨hS, hL.congr rfl (fun _ _ => rfl) (hg 17 (by decide) (by decide)) (fun _ _ _ => rfl), fun _ _ _ _ => rfl, fun _ _ _ => rfl⟩
theorem ok_hours : OK_hours INV := by
  rintro σf σA fW AW μf μA x1 hI
  have hI0 := hI
  obtain ⟨T, nx, hB, hS, hT, hW, hK, hL, hX⟩ := hI
  unfold f9_hours f10_hours
  rcases isHours_c x1 with ⟨h1, h2⟩ | ⟨N, n1, n2, rfl, h1, h2⟩
  · refine ⟨(-1, σA 3, σf 3, σA 6, σf 6, σA 10, σf 10), (-1, μA, μf), ?_, ?_, rfl, ?_⟩
    · rw [h1, Option.bind_some, if_pos rfl]
    · rw [if_pos h2]
    · show INV (cset (cset (cset σf 3 (σf 3)) 6 (σf 6)) 10 (σf 10)) (cset (cset (cset σA 3 (σA 3)) 6 (σA 6)) 10 (σA 10)) fW AW μf μA
      rw [cset_id, cset_id, cset_id, cset_id, cset_id, cset_id]
      exact hI0
  rw [h1, Option.bind_some, if_neg n10, h2, if_neg n10]
  unfold f10_hoursGo
  simp only [letv]
  have hg : ∀ j, j ≠ 41 → j ≠ 42 → upd (upd μf 41 0) 42 0 j = μf j := fun j a b => by rw [upd_n b, upd_n a]
  generalize hgg : upd (upd μf 41 0) 42 0 = g at hg
  have hg41 : g 41 = 0 := by rw [← hgg, upd_n (by decide), upd_s]
  have hB' : RB T nx (σf 2 0) (g 6) (σA 2 1) (μA 3) := by rw [hg 6 (by decide) (by decide)]; exact hB
  have key := loop_rel (fun n (s : (Nat → Nat → Int32) × (Nat → Int32) × (Nat → Nat → Int32) × (Nat → Int32) × (Nat → Nat → Int32) × (Nat → Int32) × Int32 × Int32) => f9_hours_l13 (σf 0) (σA 0) (σf 2) (σA 2) fW AW (nI N) n s.1 s.2.1 s.2.2.1 s.2.2.2.1 s.2.2.2.2.1 s.2.2.2.2.2.1 s.2.2.2.2.2.2.1 s.2.2.2.2.2.2.2) (fun n (s : (Nat → Nat → Int32) × (Nat → Int32) × Int32) => f10_hoursGo_l12 (nI N) n s.1 s.2.1 s.2.2) N
    (fun j s t => ∃ As fs A0 f0 AL fL x B g1, s = (As, fs, A0, f0, AL, fL, x, nI j) ∧ t = (B, g1, nI j) ∧ HS T fL AL fs As g1 g B μA ∧ g1 41 = x)
    (fun a b => ∃ As fs A0 f0 AL fL x B g1, a = some (x, As, fs, A0, f0, AL, fL) ∧ b = some (B, g1) ∧ HS T fL AL fs As g1 g B μA ∧ g1 41 = x) (by omega) (by
      rintro n m j s t hj ⟨As, fs, A0, f0, AL, fL, x, B, g1, rfl, rfl, hH, hx⟩
      by_cases hN : N ≤ j
      · left
        refine ⟨As, fs, A0, f0, AL, fL, x, B, g1, ?_, ?_, hH, hx⟩
        · show f9_hours_b13 (σf 0) (σA 0) (σf 2) (σA 2) fW AW (nI N) _ As fs A0 f0 AL fL x (nI j) = _
          unfold f9_hours_b13
          rw [if_pos (by rw [leI (by omega) (by omega)]; exact hN)]
        · show f10_hoursGo_b12 (nI N) _ B g1 (nI j) = _
          unfold f10_hoursGo_b12
          rw [if_pos (by rw [leI (by omega) (by omega)]; exact hN)]
      have hN' : ¬ nI N ≤ nI j := by rw [leI (by omega) (by omega)]; exact hN
      rcases pass_c (f9 := σf 0) (A9 := σA 0) (f0 := f0) (A0 := A0) hB' hW hH with ⟨A0', f0', p1, p2⟩ | ⟨A0', f0', As', fs', AL', fL', B', g', p1, p2, p3, p4, p5, p6, p7⟩
      · left
        refine ⟨As, fs, A0', f0', AL, fL, x, B, g1, ?_, ?_, hH, hx⟩
        · show f9_hours_b13 (σf 0) (σA 0) (σf 2) (σA 2) fW AW (nI N) _ As fs A0 f0 AL fL x (nI j) = _
          unfold f9_hours_b13
          rw [if_neg hN', p1, Option.bind_some, if_pos rfl]
        · show f10_hoursGo_b12 (nI N) _ B g1 (nI j) = _
          unfold f10_hoursGo_b12
          simp (maxSteps := 3000000) (disch := omega) only [hN, if_false, litI, letv, eqI, leI, ltI, addI, mulI, subI, clI, addneg, at_nI, put_nI, nI_s, orI, shl1I, ifb0, ifb1, Option.bind_some, gx, ux, Nat.add_zero, Nat.zero_add, Nat.not_lt_zero, false_or, or_false, Nat.mul_zero, Nat.zero_mul, p2, if_true]
      · right
        refine ⟨by omega, (As', fs', A0', f0', AL', fL', x + f0' 2, nI (j + 1)), (B', g', nI (j + 1)), ?_, ?_, As', fs', A0', f0', AL', fL', x + f0' 2, B', g', rfl, rfl, p4, by rw [p5, hx]⟩
        · show f9_hours_b13 (σf 0) (σA 0) (σf 2) (σA 2) fW AW (nI N) _ As fs A0 f0 AL fL x (nI j) = _
          unfold f9_hours_b13
          rw [if_neg hN', p1, Option.bind_some, if_neg n10, nI_s]
        · show f10_hoursGo_b12 (nI N) _ B g1 (nI j) = _
          unfold f10_hoursGo_b12
          simp (maxSteps := 3000000) (disch := omega) only [hN, if_false, litI, letv, eqI, leI, ltI, addI, mulI, subI, clI, addneg, at_nI, put_nI, nI_s, orI, shl1I, ifb0, ifb1, Option.bind_some, gx, ux, Nat.add_zero, Nat.zero_add, Nat.not_lt_zero, false_or, or_false, Nat.mul_zero, Nat.zero_mul, p2, if_false, p3]) (σA 3, σf 3, σA 6, σf 6, σA 10, σf 10, 0, 0) (μA, g, 0) ⟨_, _, _, _, _, _, _, _, _, rfl, rfl, HS.begin hS hL hg, hg41⟩
  obtain ⟨As, fs, A0, f0, AL, fL, x, B, g1, e1, e2, ⟨q1, q2, q3, q4⟩, q5⟩ := key
  refine ⟨(x, As, fs, A0, f0, AL, fL), (g1 41, B, g1), e1, ?_, q5.symm, T, nx, ?_, q1, ?_, ?_, ?_, q2, ?_⟩
  · show (f10_hoursGo_l12 (nI N) NF μA g 0).bind _ = _
    rw [show f10_hoursGo_l12 (nI N) NF μA g 0 = some (B, g1) from e2]
    rfl
  · show RB T nx (σf 2 0) (g1 6) (σA 2 1) (B 3)
    rw [q3 3 (by decide) (by decide) (by decide), q4 6 (by decide) (by decide)]; exact hB'
  · show RT (σf 1 1) (g1 8) (σA 1 0) (B 7)
    rw [q3 7 (by decide) (by decide) (by decide), q4 8 (by decide) (by decide), hg 8 (by decide) (by decide)]; exact hT
  · show RW fW AW (B 4) (B 5)
    rw [q3 4 (by decide) (by decide) (by decide), q3 5 (by decide) (by decide) (by decide)]; exact hW
  · show RK T (σf 0 14) (g1 51) (σf 5) (σA 5) (B 2)
    rw [q3 2 (by decide) (by decide) (by decide), q4 51 (by decide) (by decide), hg 51 (by decide) (by decide)]; exact hK
  · show RX (σA 12 0) (B 43)
    rw [q3 43 (by decide) (by decide) (by decide)]; exact hX
