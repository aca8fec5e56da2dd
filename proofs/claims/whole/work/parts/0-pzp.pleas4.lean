/-- two loops side by side, both with a turn to spare -/
theorem loop_rel3 {σ τ R R' : Type} (L : Nat → σ → Option R) (M : Nat → τ → Option R') (N : Nat) (P : Nat → σ → τ → Prop) (Q : Option R → Option R' → Prop) (hN : N < 2 ^ 199)
    (h : ∀ n m j s t, j ≤ N → P j s t → Q (L (n + 2) s) (M (m + 2) t) ∨ (j < N ∧ ∃ s' t', L (n + 2) s = L (n + 1) s' ∧ M (m + 2) t = M (m + 1) t' ∧ P (j + 1) s' t')) (s : σ) (t : τ) (hP : P 0 s t) : Q (L NF s) (M NF t) := by
  have key : ∀ (k j : Nat) (s : σ) (t : τ) (n m : Nat), j + k = N → k + 1 < n → k + 1 < m → P j s t → Q (L n s) (M m t) := by
    intro k
    induction k with
    | zero =>
      intro j s t n m hj hn hm hP
      obtain ⟨n', rfl⟩ : ∃ i, n = i + 2 := ⟨n - 2, by omega⟩
      obtain ⟨m', rfl⟩ : ∃ i, m = i + 2 := ⟨m - 2, by omega⟩
      rcases h n' m' j s t (by omega) hP with h1 | ⟨h1, _⟩
      · exact h1
      · omega
    | succ k ih =>
      intro j s t n m hj hn hm hP
      obtain ⟨n', rfl⟩ : ∃ i, n = i + 2 := ⟨n - 2, by omega⟩
      obtain ⟨m', rfl⟩ : ∃ i, m = i + 2 := ⟨m - 2, by omega⟩
      rcases h n' m' j s t (by omega) hP with h1 | ⟨h1, s', t', e1, e2, hP'⟩
      · exact h1
      · rw [e1, e2]
        exact ih (j + 1) s' t' (n' + 1) (m' + 1) (by omega) (by omega) (by omega) hP'
  have := NF_ge
  exact key N 0 s t NF NF (by omega) (by omega) (by omega) hP
theorem read_c {n T : Nat} {b : Nat → Nat} {f2 fs f4 fT g : Nat → Int32} {A1 A2 B L : Nat → Nat → Int32} {X0 : (Nat → Nat → Int32) × (Nat → Nat → Int32)} (hn : n ≤ 120) (hX : TXT n b A1 B) (hC : CUR n 0 fT g) (hT : T < 65536) (e0 : f2 0 = nI T) (e6 : g 6 = nI T) (h39 : g 39 = 0) (hS : SR T f2 fs X0 B g) :
    ∃ L' f4' fT' B' g', f3_read f4 L fT A1 f2 A2 = some (L', f4', fT') ∧ PFR B' B g' g ∧
      (((f10_readsLine g B).bind (fun q => f10_pleas_l72 (nI n) NF q.2.1 q.2.2 q.1) = f10_pleas_b112 (nI n) B' g' 0 ∧ FLT fT' g') ∨
      (∃ l, (f10_readsLine g B).bind (fun q => f10_pleas_l72 (nI n) NF q.2.1 q.2.2 q.1) = f10_pleas_b112 (nI n) B' g' 1 ∧ fT' 4 = 0 ∧ fT' 1 = 0 ∧ l ≤ 20 ∧ f4' 3 = nI l ∧ g' 39 = nI l ∧ SR T f2 fs (gfold f2 L' X0 l) B' g')) := by
  unfold f3_read
  simp only [letv]
  refine loop_rel3 (fun k (s : (Nat → Nat → Int32) × (Nat → Int32)) => (f10_readsLine s.2 s.1).bind (fun q => f10_pleas_l72 (nI n) k q.2.1 q.2.2 q.1)) (fun k (t : (Nat → Nat → Int32) × (Nat → Int32) × (Nat → Int32) × Int32 × Int32) => f3_read_l10 A1 f2 A2 k t.1 t.2.1 t.2.2.1 t.2.2.2.1 t.2.2.2.2) 120
    (fun j s t => ∃ B' g' L' f4' fT' pos l, s = (B', g') ∧ t = (L', f4', fT', 1, nI j) ∧ CUR n pos fT' g' ∧ 2 * j ≤ pos ∧ l ≤ 20 ∧ f4' 3 = nI l ∧ g' 39 = nI l ∧ SR T f2 fs (gfold f2 L' X0 l) B' g' ∧ PFR B' B g' g)
    (fun Q P => ∃ L' f4' fT' B' g', P = some (L', f4', fT') ∧ PFR B' B g' g ∧ ((Q = f10_pleas_b112 (nI n) B' g' 0 ∧ FLT fT' g') ∨ (∃ l, Q = f10_pleas_b112 (nI n) B' g' 1 ∧ fT' 4 = 0 ∧ fT' 1 = 0 ∧ l ≤ 20 ∧ f4' 3 = nI l ∧ g' 39 = nI l ∧ SR T f2 fs (gfold f2 L' X0 l) B' g'))) (by decide) ?_ (B, g) (L, upd f4 3 0, fT, 1, 0) ⟨B, g, L, upd f4 3 0, fT, 0, 0, rfl, rfl, hC, by omega, by omega, upd_s, h39, hS, fun _ _ _ => rfl, fun _ _ _ _ _ => rfl⟩
  rintro k m j s t hj ⟨B1, g1, L1, f41, fT1, pos, l, rfl, rfl, hC1, hp, hl, h3, h391, hS1, hF1⟩
  have ea : ∀ m L f4 fT x y, f3_read_l10 A1 f2 A2 (m + 1) L f4 fT x y = f3_read_b10 A1 f2 A2 (f3_read_l10 A1 f2 A2 m) L f4 fT x y := fun _ _ _ _ _ _ => rfl
  have eb : ∀ k B g x, f10_pleas_l72 (nI n) (k + 1) B g x = f10_pleas_b72 (nI n) (f10_pleas_l72 (nI n) k) B g x := fun _ _ _ _ => rfl
  have ea2 := ea (m + 1) L1 f41 fT1 1 (nI j)
  have hn260 := hC1.2.2.2.2.2
  have eb2 := eb (k + 1)
  simp only [eb2, ea2]
  unfold f3_read_b10
  rw [if_neg n10, if_neg (show ¬ (120 : Int32) ≤ nI j by rw [show (120 : Int32) = nI 120 from rfl, leI (by omega) (by omega)]; omega)]
  have hX1 : TXT n b A1 B1 := hX.congr (hF1.1 7 (by decide) (by decide))
  have e61 : g1 6 = nI T := by rw [hF1.2 6 (by decide) (by decide) (by decide) (by decide)]; exact e6
  have stop : ∀ L f4 fT x, f3_read_l10 A1 f2 A2 (m + 1) L f4 fT 0 x = some (L, f4, fT) := fun L f4 fT x => by
    rw [ea]
    unfold f3_read_b10
    rw [if_pos rfl]
  rcases line_c (A2 := A2) hX1 hC1 hT e0 e61 hl h3 h391 hS1 with ⟨L', f4', fT', B', g', k1, k2, k3, k4⟩ | ⟨L', f4', fT', B', g', pos', k1, k2, k3, k4, k5, k6, k7, k8, k9⟩
  · left
    rw [k1, k2, Option.bind_some, Option.bind_some]
    have go : f7_goesOn fT' A1 = some (0, fT') := goesOn_dead k3.1
    refine ⟨L', f4', fT', B', g', ?_, k4.trans hF1, Or.inl ⟨?_, k3⟩⟩
    · rw [go, Option.bind_some]
      exact stop _ _ _ _
    · unfold f10_pleas_b72
      rw [if_pos rfl]
  · rw [k1, k2, Option.bind_some, Option.bind_some]
    have hX2 : TXT n b A1 B' := hX1.congr (k9.1 7 (by decide) (by decide))
    have pn := k3.2.2.2.2.2
    have e9 : g' 9 = nI pos' := k3.2.2.2.2.1
    have e10 : g' 10 = nI n := k3.2.2.2.1
    rcases goesOn_c hX2 k3 with ⟨w1, w2⟩ | ⟨w1, fT2, g2, w2, w3, w4, w5⟩ | ⟨w1, fT2, g2, w2, w3, w4, w5⟩
    · left
      refine ⟨L', f4', fT', B', g', ?_, k9.trans hF1, Or.inr ⟨l + 1, ?_, k3.2.2.1, k3.1.2, by omega, k6, k7, k8⟩⟩
      · rw [w2, Option.bind_some]
        exact stop _ _ _ _
      · unfold f10_pleas_b72
        rw [if_neg n10, if_pos (show g' 10 ≤ g' 9 by rw [e9, e10, leI (by omega) (by omega)]; omega)]
    · left
      refine ⟨L', f4', fT2, B', g2, ?_, ?_, Or.inl ⟨?_, w4⟩⟩
      · rw [w2, Option.bind_some]
        exact stop _ _ _ _
      · exact PFR.trans (B' := B') (g' := g') ⟨fun _ _ _ => rfl, fun j a b c d => w5 j b⟩ (k9.trans hF1)
      · unfold f10_pleas_b72
        rw [if_neg n10, if_neg (show ¬ g' 10 ≤ g' 9 by rw [e9, e10, leI (by omega) (by omega)]; omega), w3, Option.bind_some, if_pos rfl]
        rw [eb]
        unfold f10_pleas_b72
        rw [if_pos rfl]
    · right
      refine ⟨by omega, (B', g2), (L', f4', fT2, 1, nI (j + 1)), ?_, ?_, B', g2, L', f4', fT2, pos' + 1, l + 1, rfl, rfl, w4, by omega, by omega, k6, by rw [w5 39 (by decide)]; exact k7, ?_, ?_⟩
      · unfold f10_pleas_b72
        rw [if_neg n10, if_neg (show ¬ g' 10 ≤ g' 9 by rw [e9, e10, leI (by omega) (by omega)]; omega), w3, Option.bind_some, if_neg n10]
        have hX3 : TXT n b A1 B' := hX2
        have e62 : g2 6 = nI T := by rw [w5 6 (by decide), k9.2 6 (by decide) (by decide) (by decide) (by decide)]; exact e61
        have hS2 : SR T f2 fs (gfold f2 L' X0 (l + 1)) B' g2 := by
          obtain ⟨⟨nx, hB⟩, hRS⟩ := k8
          exact ⟨⟨nx, by rw [w5 6 (by decide)]; exact hB⟩, hRS⟩
        rcases line_c (A2 := A2) hX3 w4 hT e0 e62 (show l + 1 ≤ 20 by omega) k6 (by rw [w5 39 (by decide)]; exact k7) hS2 with ⟨_, _, _, B3, g3, _, z2, _, _⟩ | ⟨_, _, _, B3, g3, _, _, z2, _⟩
        · rw [z2, Option.bind_some, Option.bind_some, if_pos rfl]
        · rw [z2, Option.bind_some, Option.bind_some, if_neg n10]
      · rw [w2, Option.bind_some, nI_s]
      · obtain ⟨⟨nx, hB⟩, hRS⟩ := k8
        exact ⟨⟨nx, by rw [w5 6 (by decide)]; exact hB⟩, hRS⟩
      · exact PFR.trans (B' := B') (g' := g') ⟨fun _ _ _ => rfl, fun j a b c d => w5 j a⟩ (k9.trans hF1)

theorem ok_pleas : OK_pleas INV := by
  rintro σf σA fW AW μf μA x1 hI
  have hI0 := hI
  obtain ⟨T, nx, hB, hS, hT, hW, hK, hL, hX⟩ := hI
  have hB0 := hB
  obtain ⟨b1, b2, b3, b4, b5, b6, b7⟩ := hB0
  obtain ⟨sz, b, t1, t2, t3, t4, t5⟩ := hT.bytes
  have none : ∃ (r : Int32 × (Nat → Int32) × (Nat → Nat → Int32) × (Nat → Nat → Int32) × (Nat → Nat → Int32) × (Nat → Int32)) (r' : Int32 × (Nat → Nat → Int32) × (Nat → Int32)), some ((-1 : Int32), σf 1, σA 2, σA 3, σA 7, σf 7) = some r ∧ some ((-1 : Int32), μA, μf) = some r' ∧ r.1 = (r'.1) ∧ INV (cset (cset σf 1 (r.2.1)) 7 (r.2.2.2.2.2)) (cset (cset (cset σA 2 (r.2.2.1)) 3 (r.2.2.2.1)) 7 (r.2.2.2.2.1)) fW AW (r'.2.2) (r'.2.1) := ⟨_, _, rfl, rfl, rfl, by rw [cset_id, cset_id, cset_id, cset_id, cset_id]; exact hI0⟩
  unfold f9_pleas f10_pleas
  rw [in_eq]
  rcases within_c x1 (A := 1) (B := 120) (a := 1) (b := 120) rfl rfl (by decide) (by decide) with ⟨h, _⟩ | ⟨h, n, hn0, hn, rfl⟩
  · rw [if_pos h, if_pos h]; exact none
  rw [h, if_neg n10, if_neg n10, holds_c t2 t1 (by omega), t3]
  by_cases hsz : ¬ n ≤ sz
  · rw [if_neg hsz, if_pos (show nI 0 = (0 : Int32) from rfl), if_neg (show ¬ nI n ≤ nI sz by rw [leI (by omega) (by omega)]; exact hsz)]
    exact none
  replace hsz : n ≤ sz := Classical.not_not.mp hsz
  rw [if_pos hsz, if_neg (show ¬ nI 1 = 0 by decide), if_pos (show nI n ≤ nI sz by rw [leI (by omega) (by omega)]; exact hsz)]
  simp only [letv]
  obtain ⟨zs, e2, hz⟩ := copies10 (μA 0) (μA 1)
  rw [e2, Option.bind_some]
  obtain ⟨hC, hbf⟩ := begins_c (σf1 := σf 1) (μf := μf) (A1 := σA 1) (A0 := μA) (n := n)
  generalize hg0 : upd (f10_beginsText μf μA (nI n)) 39 0 = g0
  have hC0 : CUR n 0 (f7_open (σf 1) (σA 1) (nI n)) g0 := hC.congr (by rw [← hg0]; exact upd_n (by decide)) (by rw [← hg0]; exact upd_n (by decide))
  have g39 : g0 39 = 0 := by rw [← hg0]; exact upd_s
  have gfr : ∀ j, j ≠ 9 → j ≠ 10 → j ≠ 14 → j ≠ 16 → j ≠ 39 → g0 j = μf j := fun j a b c d e => by rw [← hg0, upd_n e]; exact hbf j a b c d
  -- the lanes are kept
  have save : ∃ B0, f10_pleas_l43 (nI n) NF (updA μA 1 zs) g0 0 = (f10_readsLine g0 B0).bind (fun q => f10_pleas_l72 (nI n) NF q.2.1 q.2.2 q.1) ∧ (∀ i, i < 16 → B0 40 i = μA 3 i) ∧ B0 1 = zs ∧ ∀ j, j ≠ 1 → j ≠ 40 → B0 j = μA j := by
    refine loop_one (fun k (s : (Nat → Nat → Int32) × Int32) => f10_pleas_l43 (nI n) k s.1 g0 s.2) 16 (fun i s => ∃ B0, s = (B0, nI i) ∧ (∀ i', i' < i → B0 40 i' = μA 3 i') ∧ B0 1 = zs ∧ ∀ j, j ≠ 1 → j ≠ 40 → B0 j = μA j) (fun P => ∃ B0, P = (f10_readsLine g0 B0).bind (fun q => f10_pleas_l72 (nI n) NF q.2.1 q.2.2 q.1) ∧ (∀ i, i < 16 → B0 40 i = μA 3 i) ∧ B0 1 = zs ∧ ∀ j, j ≠ 1 → j ≠ 40 → B0 j = μA j) (by decide) ?_ (updA μA 1 zs, 0) ⟨_, rfl, fun i h => absurd h (by omega), updA_s, fun j a _ => updA_n a⟩
    rintro k i s hi ⟨B0, rfl, h1, h2, h3⟩
    have ea : ∀ k B i, f10_pleas_l43 (nI n) (k + 1) B g0 i = f10_pleas_b43 (nI n) (f10_pleas_l43 (nI n) k) B g0 i := fun _ _ _ => rfl
    simp only [ea]
    unfold f10_pleas_b43
    by_cases h16 : 16 ≤ i
    · have : i = 16 := by omega
      subst this
      left
      rw [if_pos (by decide)]
      exact ⟨B0, rfl, h1, h2, h3⟩
    right
    have ii : ¬ (nI i < 0 ∨ 16 ≤ (nI i).toNatClampNeg) := nI_in (by omega) (by decide)
    rw [if_neg (ge16 (show i < 16 by omega)), if_neg ii, if_neg ii, gx_nI (by omega), ux_nI (by omega), nI_s]
    simp only [letv]
    refine ⟨by omega, (updA B0 40 (upd (B0 40) i (B0 3 i)), nI (i + 1)), rfl, _, rfl, fun i' hi' => ?_, (updA_n (by decide)).trans h2, fun j a c => (updA_n c).trans (h3 j a c)⟩
    show updA B0 40 (upd (B0 40) i (B0 3 i)) 40 i' = _
    rw [updA_s]
    by_cases e : i' = i
    · subst e; rw [upd_s, h3 3 (by decide) (by decide)]
    · rw [upd_n e]; exact h1 i' (by omega)
  obtain ⟨B0, s1, s2, s3, s4⟩ := save
  rw [s1]
  have hX0 : TXT n b (σA 1) B0 := ⟨by omega, t4, fun i hi => (t5 i (by omega)).1, fun i hi => by rw [s4 7 (by decide) (by decide)]; exact (t5 i (by omega)).2⟩
  have g6 : g0 6 = nI T := by rw [gfr 6 (by decide) (by decide) (by decide) (by decide) (by decide)]; exact b3
  have hSR : SR T (σf 2) (σf 3) (σA 3, σA 2) B0 g0 := by
    refine ⟨⟨nx, ?_⟩, ?_⟩
    · show RB T nx (σf 2 0) (g0 6) (σA 2 1) (B0 3)
      rw [gfr 6 (by decide) (by decide) (by decide) (by decide) (by decide), s4 3 (by decide) (by decide)]; exact hB
    · show RS T (σf 3) (σA 3) (B0 0)
      rw [s4 0 (by decide) (by decide)]; exact hS
  obtain ⟨L', f4', fT', B', g', r1, r2, r3⟩ := read_c (f4 := σf 7) (L := σA 7) (A2 := σA 2) (by omega) hX0 hC0 b1 b2 g6 g39 hSR
  rw [r1, Option.bind_some]
  -- what stays in the reference
  have fg : ∀ j, j ≠ 8 → j ≠ 9 → j ≠ 10 → j ≠ 11 → j ≠ 12 → j ≠ 14 → j ≠ 16 → j ≠ 39 → upd g' 8 0 j = μf j := fun j a b c d e f h k => by
    rw [upd_n a, r2.2 j b d e k, gfr j b c f h k]
  have fB : ∀ j, j ≠ 0 → j ≠ 1 → j ≠ 3 → j ≠ 40 → B' j = μA j := fun j a b c d => (r2.1 j a c).trans (s4 j b d)
  have build : ∀ (fT' : Nat → Int32) (X1 X2 : Nat → Nat → Int32) (Y : Nat → Nat → Int32), fT' 1 = 0 → (∃ nx, RB T nx (σf 2 0) (upd g' 8 0 6) (X2 1) (Y 3)) → RS T (σf 3) X1 (Y 0) → (∀ j, j ≠ 0 → j ≠ 1 → j ≠ 3 → j ≠ 40 → Y j = μA j) → INV (cset (cset σf 1 fT') 7 f4') (cset (cset (cset σA 2 X2) 3 X1) 7 L') fW AW (upd g' 8 0) Y := by
    rintro fT' X1 X2 Y h1 ⟨nx', h2⟩ h3 h4
    refine ⟨T, nx', h2, h3, ⟨0, by decide, h1, upd_s, fun i hi => absurd hi (by omega)⟩, ?_, ?_, ?_, ?_⟩
    · show RW fW AW (Y 4) (Y 5)
      rw [h4 4 (by decide) (by decide) (by decide) (by decide), h4 5 (by decide) (by decide) (by decide) (by decide)]; exact hW
    · show RK T (σf 0 14) (upd g' 8 0 51) (σf 5) (σA 5) (Y 2)
      rw [fg 51 (by decide) (by decide) (by decide) (by decide) (by decide) (by decide) (by decide) (by decide), h4 2 (by decide) (by decide) (by decide) (by decide)]; exact hK
    · exact LAWR.congr (fL := σf 10) (AL := σA 10) (g := μf) (B := μA) hL rfl (fun _ _ => rfl) (fg 17 (by decide) (by decide) (by decide) (by decide) (by decide) (by decide) (by decide) (by decide)) (fun j h1 h2 => h4 j (by omega) (by omega) (by omega) (by omega))
    · show RX (σA 12 0) (Y 43)
      rw [h4 43 (by decide) (by decide) (by decide) (by decide)]; exact hX
  have s1' : B' 1 = zs := (r2.1 1 (by decide) (by decide)).trans s3
  rcases r3 with ⟨r3, r4⟩ | ⟨l, r3, r4, r5, r6, r7, r8, r9⟩
  · -- a fault: all is as it was
    rw [r3, fine_n r4.1, if_pos rfl]
    unfold f10_pleas_b112 f9_pleas_b71
    simp only [letv]
    obtain ⟨ys, e3, hy⟩ := copies10 (B' 1) (B' 0)
    rw [if_pos trivial, e3, Option.bind_some]
    have back : ∃ Y, f10_pleas_l139 (nI n) NF (updA B' 0 ys) (upd g' 8 0) 0 = some (upd g' 8 0 11, Y, upd g' 8 0) ∧ (∀ i, i < 16 → Y 3 i = μA 3 i) ∧ Y 0 = ys ∧ ∀ j, j ≠ 0 → j ≠ 3 → Y j = B' j := by
      refine loop_one (fun k (s : (Nat → Nat → Int32) × Int32) => f10_pleas_l139 (nI n) k s.1 (upd g' 8 0) s.2) 16 (fun i s => ∃ Y, s = (Y, nI i) ∧ (∀ i', i' < i → Y 3 i' = μA 3 i') ∧ Y 0 = ys ∧ ∀ j, j ≠ 0 → j ≠ 3 → Y j = B' j) (fun P => ∃ Y, P = some (upd g' 8 0 11, Y, upd g' 8 0) ∧ (∀ i, i < 16 → Y 3 i = μA 3 i) ∧ Y 0 = ys ∧ ∀ j, j ≠ 0 → j ≠ 3 → Y j = B' j) (by decide) ?_ (updA B' 0 ys, 0) ⟨_, rfl, fun i h => absurd h (by omega), updA_s, fun j a _ => updA_n a⟩
      rintro k i s hi ⟨Y, rfl, h1, h2, h3⟩
      have ea : ∀ k B i, f10_pleas_l139 (nI n) (k + 1) B (upd g' 8 0) i = f10_pleas_b139 (nI n) (f10_pleas_l139 (nI n) k) B (upd g' 8 0) i := fun _ _ _ => rfl
      simp only [ea]
      unfold f10_pleas_b139
      by_cases h16 : 16 ≤ i
      · have : i = 16 := by omega
        subst this
        left
        rw [if_pos (by decide)]
        exact ⟨Y, rfl, h1, h2, h3⟩
      right
      have ii : ¬ (nI i < 0 ∨ 16 ≤ (nI i).toNatClampNeg) := nI_in (by omega) (by decide)
      rw [if_neg (ge16 (show i < 16 by omega)), if_neg ii, if_neg ii, gx_nI (by omega), ux_nI (by omega), nI_s]
      simp only [letv]
      refine ⟨by omega, (updA Y 3 (upd (Y 3) i (Y 40 i)), nI (i + 1)), rfl, _, rfl, fun i' hi' => ?_, (updA_n (by decide)).trans h2, fun j a c => (updA_n c).trans (h3 j a c)⟩
      show updA Y 3 (upd (Y 3) i (Y 40 i)) 3 i' = _
      rw [updA_s]
      by_cases e : i' = i
      · subst e; rw [upd_s, h3 40 (by decide) (by decide), r2.1 40 (by decide) (by decide)]; exact s2 i' (by omega)
      · rw [upd_n e]; exact h1 i' (by omega)
    obtain ⟨Y, y1, y2, y3, y4⟩ := back
    refine ⟨(f7_answer fT' (σA 1) (f4' 3), fT', σA 2, σA 3, L', f4'), (upd g' 8 0 11, Y, upd g' 8 0), rfl, y1, ?_, build fT' (σA 3) (σA 2) Y r4.2.2 ⟨nx, ⟨b1, b2, ?_, fun p hp => ?_, b5, b6, b7⟩⟩ ?_ (fun j a b c d => (y4 j a c).trans (fB j a b c d))⟩
    · show f7_answer fT' (σA 1) (f4' 3) = upd g' 8 0 11
      rw [answer_flt r4, upd_n (by decide)]
    · rw [fg 6 (by decide) (by decide) (by decide) (by decide) (by decide) (by decide) (by decide) (by decide)]; exact b3
    · rw [y2 p hp]; exact b4 p hp
    · rw [y3]
      refine hS.congr (fun _ _ _ => rfl) (fun _ _ _ _ => rfl) (fun _ _ => ⟨rfl, rfl⟩) (fun j hj => ?_)
      rw [hy j hj, s1', hz j hj]
  · rw [r3, fine_c r4, if_neg n10, grant_c (A1 := σA 3) (A2 := σA 2) (f1 := σf 3) r6 r7, Option.bind_some]
    unfold f10_pleas_b112 f9_pleas_b71
    simp only [letv]
    rw [if_neg n10]
    obtain ⟨⟨nx', c1⟩, c2⟩ := r9
    refine ⟨(f7_answer fT' (σA 1) (f4' 3), fT', (gfold (σf 2) L' (σA 3, σA 2) l).2, (gfold (σf 2) L' (σA 3, σA 2) l).1, L', f4'), (upd g' 8 0 39, B', upd g' 8 0), rfl, rfl, ?_, build fT' _ _ B' r5 ⟨nx', ?_⟩ c2 fB⟩
    · show f7_answer fT' (σA 1) (f4' 3) = upd g' 8 0 39
      rw [answer_ok r4, r7, upd_n (by decide), r8]
    · rw [upd_n (by decide)]; exact c1
