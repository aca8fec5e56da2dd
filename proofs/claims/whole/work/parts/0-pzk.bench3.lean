theorem all10_c {g : Nat → Int32} {B : Nat → Nat → Int32} {n m a : Nat} {ρ : Nat → Nat → Nat} {X : Nat → Int32} (hn : n ≤ 6) (hm : m ≤ 9) (ha : a < n) (hR : RNK n m 0 0 ρ X (B 50)) : f10_beatsAll g B (nI a) (nI n) (nI m) = some (if BAb ρ n m a = true then 1 else 0) := by
  unfold f10_beatsAll
  refine loop_one (fun k (s : Int32) => f10_beatsAll_l3 g B (nI a) (nI n) (nI m) k s) n (fun b s => s = nI b ∧ ∀ b', b' < b → b' ≠ a → m < 2 * JJ ρ m a b') (fun P => P = some (if BAb ρ n m a = true then 1 else 0)) (by omega) ?_ 0 ⟨rfl, fun b h => absurd h (by omega)⟩
  rintro k b s hb ⟨rfl, hall⟩
  have ea : ∀ k i, f10_beatsAll_l3 g B (nI a) (nI n) (nI m) (k + 1) i = f10_beatsAll_b3 g B (nI a) (nI n) (nI m) (f10_beatsAll_l3 g B (nI a) (nI n) (nI m) k) i := fun _ _ => rfl
  simp only [ea]
  unfold f10_beatsAll_b3
  by_cases h : n ≤ b
  · have : b = n := by omega
    subst this
    left
    rw [if_pos (show nI b ≤ nI b by rw [leI (by omega) (by omega)]; omega), if_pos (BAb_iff.mpr hall)]
  rw [if_neg (show ¬ nI n ≤ nI b by rw [leI (by omega) (by omega)]; exact h), nI_s]
  by_cases e : b = a
  · subst e
    right
    rw [if_pos rfl]
    refine ⟨by omega, nI (b + 1), rfl, rfl, fun b' h1 h2 => hall b' (by omega) h2⟩
  rw [if_neg (show ¬ nI b = nI a by rw [eqI (by omega) (by omega)]; exact e)]
  obtain ⟨x, x1, x2⟩ := margin_c (g := g) hn hm ha (show b < n by omega) hR
  rw [x1, Option.bind_some]
  have jl' : JJ ρ m a b ≤ m := cnt_le _ m
  by_cases q : m < 2 * JJ ρ m a b
  · right
    rw [if_pos (show 0 < x by rw [Int32.lt_iff_toInt_lt, x2]; show (0 : Int) < _; omega)]
    refine ⟨by omega, nI (b + 1), rfl, rfl, fun b' h1 h2 => ?_⟩
    by_cases e2 : b' = b
    · subst e2; exact q
    · exact hall b' (by omega) h2
  · left
    rw [if_neg (show ¬ 0 < x by rw [Int32.lt_iff_toInt_lt, x2]; show ¬ (0 : Int) < _; omega), if_neg (show ¬ BAb ρ n m a = true from fun hh => q (BAb_iff.mp hh b (by omega) e))]
theorem bench10_c {g : Nat → Int32} {B : Nat → Nat → Int32} {n m w : Nat} {ρ : Nat → Nat → Nat} {X : Nat → Int32} (hn0 : 2 ≤ n) (hn : n ≤ 6) (hm : m ≤ 9) (hw : w ≤ 2) (hR : RNK n m 0 0 ρ X (B 50)) : ∃ x f, WINS ρ n m n x ∧ f < n ∧ FEW ρ m n f ∧ f10_bench_l71 (nI n) (nI m) (nI w) NF B g (-2) 0 0 0 = some (if w = 0 then x else if w = 1 then nI f else nI (tsum (fun a => cnt (EE ρ m a) a) n), B, g) := by
  refine loop_one (fun k (s : Int32 × Int32 × Int32 × Int32) => f10_bench_l71 (nI n) (nI m) (nI w) k B g s.1 s.2.1 s.2.2.1 s.2.2.2) n (fun a s => ∃ x f, s = (x, nI f, nI (tsum (fun a => cnt (EE ρ m a) a) a), nI a) ∧ WINS ρ n m a x ∧ f < n ∧ FEW ρ m a f) (fun P => ∃ x f, WINS ρ n m n x ∧ f < n ∧ FEW ρ m n f ∧ P = some (if w = 0 then x else if w = 1 then nI f else nI (tsum (fun a => cnt (EE ρ m a) a) n), B, g)) (by omega) ?_ (-2, 0, 0, 0) ⟨-2, 0, rfl, Or.inl ⟨rfl, fun a h => absurd h (by omega)⟩, by omega, fun a h => absurd h (by omega), fun a h => absurd h (by omega)⟩
  rintro k a s ha ⟨x, f, rfl, hW, hf, hF⟩
  have ea : ∀ k x y z i, f10_bench_l71 (nI n) (nI m) (nI w) (k + 1) B g x y z i = f10_bench_b71 (nI n) (nI m) (nI w) (f10_bench_l71 (nI n) (nI m) (nI w) k) B g x y z i := fun _ _ _ _ _ => rfl
  simp only [ea]
  generalize f10_bench_l71 (nI n) (nI m) (nI w) k = Kn
  unfold f10_bench_b71
  by_cases h : n ≤ a
  · have : a = n := by omega
    subst this
    left
    refine ⟨x, f, hW, hf, hF, ?_⟩
    simp (maxSteps := 3000000) (disch := omega) only [litI, letv, eqI, leI, ltI, addI, mulI, subI, clI, addneg, at_nI, put_nI, nI_s, orI, shl1I, ifb0, ifb1, Option.bind_some, gx, ux, Nat.add_zero, Nat.zero_add, Nat.not_lt_zero, false_or, or_false, Nat.mul_zero, Nat.zero_mul, if_pos]
    by_cases c0 : w = 0
    · simp (maxSteps := 3000000) (disch := omega) only [c0, if_true]
    by_cases c1 : w = 1
    · simp (maxSteps := 3000000) (disch := omega) only [c1, if_true, if_neg]
    · simp (maxSteps := 3000000) (disch := omega) only [c0, c1, if_false]
  right
  refine ⟨by omega, ?_⟩
  have han : a < n := by omega
  rw [if_neg (show ¬ nI n ≤ nI a by rw [leI (by omega) (by omega)]; exact h), all10_c hn hm han hR, Option.bind_some]
  have b1 : SS ρ m a ≤ 6 * m := SS_le hn hR han m (Nat.le_refl _)
  have b2 : SS ρ m f ≤ 6 * m := SS_le hn hR hf m (Nat.le_refl _)
  have tl : ∀ a, a ≤ 6 → tsum (fun a => cnt (EE ρ m a) a) a ≤ 6 * a := by
    intro a
    induction a with
    | zero => intro _; exact Nat.le_refl _
    | succ a ih =>
      intro h
      have := cnt_le (EE ρ m a) a
      have := ih (by omega)
      show tsum _ a + cnt (EE ρ m a) a ≤ _
      omega
  have inner : ∀ x f, f10_bench_l116 (nI n) (nI m) (nI w) Kn NF B g x f (nI (tsum (fun a => cnt (EE ρ m a) a) a)) (nI a) 0 = Kn B g x f (nI (tsum (fun a => cnt (EE ρ m a) a) (a + 1))) (nI (a + 1)) := by
    intro x f
    refine loop_one (fun k (s : Int32 × Int32) => f10_bench_l116 (nI n) (nI m) (nI w) Kn k B g x f s.1 (nI a) s.2) a (fun b s => s = (nI (tsum (fun a => cnt (EE ρ m a) a) a + cnt (EE ρ m a) b), nI b)) (fun P => P = Kn B g x f (nI (tsum (fun a => cnt (EE ρ m a) a) (a + 1))) (nI (a + 1))) (by omega) ?_ (_, _) rfl
    rintro k b s hb rfl
    have eb : ∀ k u i, f10_bench_l116 (nI n) (nI m) (nI w) Kn (k + 1) B g x f u (nI a) i = f10_bench_b116 (nI n) (nI m) (nI w) Kn (f10_bench_l116 (nI n) (nI m) (nI w) Kn k) B g x f u (nI a) i := fun _ _ _ => rfl
    simp only [eb]
    unfold f10_bench_b116
    by_cases h2 : a ≤ b
    · have : b = a := by omega
      subst this
      left
      rw [if_pos (show nI b ≤ nI b by rw [leI (by omega) (by omega)]; omega), nI_s]
      rfl
    right
    refine ⟨by omega, ?_⟩
    obtain ⟨y, y1, y2⟩ := margin_c (g := g) hn hm han (show b < n by omega) hR
    rw [if_neg (show ¬ nI a ≤ nI b by rw [leI (by omega) (by omega)]; exact h2), y1, Option.bind_some, nI_s, nI_s]
    have jl' : JJ ρ m a b ≤ m := cnt_le _ m
    have ec : cnt (EE ρ m a) (b + 1) = cnt (EE ρ m a) b + if EE ρ m a b then 1 else 0 := rfl
    rw [ec]
    unfold EE
    by_cases q : 2 * JJ ρ m a b = m
    · rw [if_pos (show y = 0 by apply Int32.toInt_inj.mp; rw [y2]; show _ = (0 : Int); omega), decide_eq_true q]
      exact ⟨(_, _), rfl, rfl⟩
    · rw [if_neg (show ¬ y = 0 from fun hy => by rw [hy] at y2; have : (0 : Int32).toInt = 0 := rfl
                                                 omega), decide_eq_false q]
      exact ⟨(_, _), rfl, rfl⟩
  have stepb : ∀ x', f10_bench_b92 (nI n) (nI m) (nI w) Kn B g x' (nI f) (nI (tsum (fun a => cnt (EE ρ m a) a) a)) (nI a) = Kn B g x' (nI (if SS ρ m a < SS ρ m f then a else f)) (nI (tsum (fun a => cnt (EE ρ m a) a) (a + 1))) (nI (a + 1)) := by
    intro x'
    unfold f10_bench_b92
    rw [places_c hn hm han hR, Option.bind_some, places_c hn hm hf hR, Option.bind_some]
    by_cases q : SS ρ m a < SS ρ m f
    · rw [if_neg (show ¬ nI (SS ρ m f) ≤ nI (SS ρ m a) by rw [leI (by omega) (by omega)]; omega), if_pos q]
      exact inner _ _
    · rw [if_pos (show nI (SS ρ m f) ≤ nI (SS ρ m a) by rw [leI (by omega) (by omega)]; omega), if_neg q]
      exact inner _ _
  have hF' : FEW ρ m (a + 1) (if SS ρ m a < SS ρ m f then a else f) := by
    by_cases q : SS ρ m a < SS ρ m f
    · rw [if_pos q]
      refine ⟨fun a' h' => ?_, fun a' h' => ?_⟩
      · by_cases e : a' = a
        · subst e; exact Nat.le_refl _
        · have := hF.1 a' (by omega); omega
      · have := hF.1 a' h'; omega
    · rw [if_neg q]
      refine ⟨fun a' h' => ?_, hF.2⟩
      by_cases e : a' = a
      · subst e; omega
      · exact hF.1 a' (by omega)
  have hf' : (if SS ρ m a < SS ρ m f then a else f) < n := by split <;> omega
  by_cases q : BAb ρ n m a = true
  · rw [if_pos q, if_neg n10, stepb]
    refine ⟨(_, _, _, _), rfl, nI a, _, rfl, Or.inr ⟨a, by omega, q, rfl⟩, hf', hF'⟩
  · rw [if_neg q, if_pos rfl, stepb]
    refine ⟨(_, _, _, _), rfl, x, _, rfl, ?_, hf', hF'⟩
    rcases hW with ⟨h1, h2⟩ | ⟨a', h1, h2, h3⟩
    · refine Or.inl ⟨h1, fun a' h' => ?_⟩
      by_cases e : a' = a
      · subst e; exact q
      · exact h2 a' (by omega)
    · exact Or.inr ⟨a', by omega, h2, h3⟩
theorem inv_bench {σf : Nat → Nat → Int32} {σA : Nat → Nat → Nat → Int32} {fW : Nat → Nat → Int32} {AW : Nat → Nat → Nat → Int32} {μf : Nat → Int32} {μA : Nat → Nat → Int32} (h : INV σf σA fW AW μf μA) {z : Nat → Int32} (hz : z 1 = 0) {y : Int32} (hy : y = 0) {A B : Nat → Nat → Int32} (hB : ∀ k, k ≠ 50 → B k = μA k) : INV (cset σf 1 z) (cset σA 0 A) fW AW (upd μf 8 y) B := by
  obtain ⟨T, nx, hB', hS, hT, hW, hK, hL, hX⟩ := inv_tape0 h hz hy
  refine ⟨T, nx, ?_, ?_, ?_, ?_, ?_, ?_, ?_⟩
  · show RB T nx _ _ (σA 2 1) (B 3)
    rw [hB 3 (by decide)]; exact hB'
  · show RS T _ (σA 3) (B 0)
    rw [hB 0 (by decide)]; exact hS
  · show RT _ _ (σA 1 0) (B 7)
    rw [hB 7 (by decide)]; exact hT
  · show RW fW AW (B 4) (B 5)
    rw [hB 4 (by decide), hB 5 (by decide)]; exact hW
  · show RK T _ _ _ (σA 5) (B 2)
    rw [hB 2 (by decide)]; exact hK
  · show RLaw _ _ (σA 10) (B 24) (B 25) (B 26) (B 27) (B 28)
    rw [hB 24 (by decide), hB 25 (by decide), hB 26 (by decide), hB 27 (by decide), hB 28 (by decide)]; exact hL
  · show RX (σA 12 0) (B 43)
    rw [hB 43 (by decide)]; exact hX
theorem ok_bench : OK_bench INV := by
  rintro σf σA fW AW μf μA x1 x2 x3 hI
  have hI0 := hI
  obtain ⟨T, nx, -, -, hT, -, -, -, -⟩ := hI
  obtain ⟨sz, b, t1, t2, t3, t4, t5⟩ := hT.bytes
  have none : ∃ (r : Int32 × (Nat → Nat → Int32) × (Nat → Int32)) (r' : Int32 × (Nat → Nat → Int32) × (Nat → Int32)), some ((-1 : Int32), σA 0, σf 1) = some r ∧ some ((-1 : Int32), μA, μf) = some r' ∧ r.1 = (r'.1) ∧ INV (cset σf 1 (r.2.2)) (cset σA 0 (r.2.1)) fW AW (r'.2.2) (r'.2.1) := ⟨_, _, rfl, rfl, rfl, by rw [cset_id, cset_id]; exact hI0⟩
  unfold f9_bench f10_bench
  rw [in_eq]
  rcases within_c x1 (A := 2) (B := 6) (a := 2) (b := 6) rfl rfl (by decide) (by decide) with ⟨h, _⟩ | ⟨h, n, hn0, hn, rfl⟩
  · rw [if_pos h, if_pos h]; exact none
  rw [h, if_neg n10, if_neg n10]
  rcases within_c x2 (A := 1) (B := 9) (a := 1) (b := 9) rfl rfl (by decide) (by decide) with ⟨h2, _⟩ | ⟨h2, m, hm0, hm, rfl⟩
  · rw [if_pos h2, if_pos h2]; exact none
  rw [h2, if_neg n10, if_neg n10]
  rcases within_c x3 (A := 0) (B := 2) (a := 0) (b := 2) rfl rfl (by decide) (by decide) with ⟨h3, _⟩ | ⟨h3, w, _, hw, rfl⟩
  · rw [if_pos h3, if_pos h3]; exact none
  have nm : n * m ≤ 54 := Nat.mul_le_mul hn hm
  rw [h3, if_neg n10, if_neg n10, mulI, holds_c t2 t1 (by omega), t3]
  by_cases hsz : ¬ n * m ≤ sz
  · rw [if_neg hsz, if_pos (show nI 0 = (0 : Int32) from rfl), if_neg (show ¬ nI (n * m) ≤ nI sz by rw [leI (by omega) (by omega)]; exact hsz)]
    exact none
  replace hsz : n * m ≤ sz := Classical.not_not.mp hsz
  have hb1 : ∀ i, i < n * m → σA 1 0 i = nI (b i) := fun i hi => (t5 i (by omega)).1
  have hb2 : ∀ i, i < n * m → μA 7 i &&& 255 = nI (b i) := fun i hi => (t5 i (by omega)).2
  rw [if_pos hsz, if_neg (show ¬ nI 1 = 0 by decide), if_pos (show nI (n * m) ≤ nI sz by rw [leI (by omega) (by omega)]; exact hsz)]
  simp only [letv]
  have key := loop_rel (fun k (s : (Nat → Nat → Int32) × Int32) => f9_bench_l57 (σf 0) (σA 1) (nI n) (nI m) (nI w) k s.1 (f7_open (σf 1) (σA 1) (nI (n * m))) s.2) (fun k (s : (Nat → Nat → Int32) × Int32) => f10_laysRanks_l2 (upd μf 8 0) (nI n) (nI m) k s.1 s.2) m
    (fun j s t => ∃ A B ρ, s = (A, nI j) ∧ t = (B, nI j) ∧ RNK n j 0 0 ρ (A 9) (B 50) ∧ ∀ k, k ≠ 50 → B k = μA k)
    (fun P Q => (∃ A B, P = some (-3, A, f7_open (σf 1) (σA 1) (nI (n * m))) ∧ Q = some (0, B) ∧ ∀ k, k ≠ 50 → B k = μA k) ∨ (∃ A B ρ x f, WINS ρ n m n x ∧ f < n ∧ FEW ρ m n f ∧ P = some (if w = 0 then x else if w = 1 then nI f else nI (tsum (rowc (EE ρ m) n) n), A, f7_open (σf 1) (σA 1) (nI (n * m))) ∧ Q = some (1, B) ∧ RNK n m 0 0 ρ (A 9) (B 50) ∧ ∀ k, k ≠ 50 → B k = μA k)) (by omega) (by
      rintro k k' j s t hj ⟨A, B, ρ, rfl, rfl, hR, hf⟩
      have ea : ∀ k A i, f9_bench_l57 (σf 0) (σA 1) (nI n) (nI m) (nI w) (k + 1) A (f7_open (σf 1) (σA 1) (nI (n * m))) i = f9_bench_b57 (σf 0) (σA 1) (nI n) (nI m) (nI w) (f9_bench_l57 (σf 0) (σA 1) (nI n) (nI m) (nI w) k) A (f7_open (σf 1) (σA 1) (nI (n * m))) i := fun _ _ _ => rfl
      have eb : ∀ k B i, f10_laysRanks_l2 (upd μf 8 0) (nI n) (nI m) (k + 1) B i = f10_laysRanks_b2 (upd μf 8 0) (nI n) (nI m) (f10_laysRanks_l2 (upd μf 8 0) (nI n) (nI m) k) B i := fun _ _ _ => rfl
      simp only [ea, eb]
      unfold f9_bench_b57 f10_laysRanks_b2
      by_cases hjm : m ≤ j
      · have : j = m := by omega
        subst this
        left
        right
        have hjj : nI j ≤ nI j := by rw [leI (by omega) (by omega)]; omega
        obtain ⟨x, x1, x2⟩ := all9_c (f := σf 0) hn0 hn hm hR
        obtain ⟨f, f1, f2, f3⟩ := few9_c (f := σf 0) hn0 hn hm hR
        have tw := twos9_c (f := σf 0) hn hm hR
        rw [if_pos hjj, if_pos hjj, x1, f2, tw]
        refine ⟨A, B, ρ, x, f, x2, f1, f3, ?_, rfl, hR, hf⟩
        simp (maxSteps := 3000000) (disch := omega) only [litI, letv, eqI, leI, ltI, addI, mulI, subI, clI, addneg, at_nI, put_nI, nI_s, orI, shl1I, ifb0, ifb1, Option.bind_some, gx, ux, Nat.add_zero, Nat.zero_add, Nat.not_lt_zero, false_or, or_false, Nat.mul_zero, Nat.zero_mul]
        by_cases c0 : w = 0
        · simp (maxSteps := 3000000) (disch := omega) only [c0, if_true]
        by_cases c1 : w = 1
        · simp (maxSteps := 3000000) (disch := omega) only [c1, if_true, if_neg]
        · simp (maxSteps := 3000000) (disch := omega) only [c0, c1, if_false]
      have hjm' : ¬ nI m ≤ nI j := by rw [leI (by omega) (by omega)]; exact hjm
      rw [if_neg hjm', if_neg hjm']
      rcases take_c (f0 := σf 0) (fT := f7_open (σf 1) (σA 1) (nI (n * m))) (g := upd μf 8 0) (A := A) (AT := σA 1) (B := B) (b := b) (n := n) (m := m) (j := j) (ρ := ρ) (K := f10_laysRanks_l2 (upd μf 8 0) (nI n) (nI m) k') (by omega) hn hm (by omega) open_2 t4 hb1 (fun i hi => by rw [hf 7 (by decide)]; exact hb2 i hi) hR with ⟨A', B', c1, c2, c3⟩ | ⟨A', B', ρ', c1, c2, c3, c4⟩
      · left
        left
        rw [c1, c2, Option.bind_some, if_pos rfl]
        exact ⟨A', B', rfl, rfl, fun k hk => (c3 k hk).trans (hf k hk)⟩
      · right
        rw [c1, c2, Option.bind_some, if_neg n10, nI_s]
        exact ⟨by omega, (A', nI (j + 1)), (B', nI (j + 1)), rfl, rfl, A', B', ρ', rfl, rfl, c3, fun k hk => (c4 k hk).trans (hf k hk)⟩) (σA 0, 0) (μA, 0) ⟨σA 0, μA, fun _ _ => 0, rfl, rfl, ⟨fun j' c h => absurd h (by omega), fun j' c c' h => absurd h (by omega), fun c _ h => by rw [Nat.zero_testBit] at h; exact absurd h (by decide), fun c c' _ _ h => by rw [Nat.zero_testBit] at h; exact absurd h (by decide)⟩, fun _ _ => rfl⟩
  unfold f10_laysRanks
  rcases key with ⟨A, B, k1, k2, k3⟩ | ⟨A, B, ρ, x, f, k1, k2, k3, k4, k5, k6, k7⟩
  · refine ⟨(-3, A, f7_open (σf 1) (σA 1) (nI (n * m))), (-3, B, upd μf 8 0), k1, ?_, rfl, inv_bench hI0 rfl rfl k3⟩
    rw [show f10_laysRanks_l2 (upd μf 8 0) (nI n) (nI m) NF μA 0 = some (0, B) from k2, Option.bind_some, if_pos rfl]
  · obtain ⟨x', f', j1, j2, j3, j4⟩ := bench10_c (g := upd μf 8 0) hn0 hn hm hw k6
    refine ⟨(if w = 0 then x else if w = 1 then nI f else nI (tsum (rowc (EE ρ m) n) n), A, f7_open (σf 1) (σA 1) (nI (n * m))), (if w = 0 then x' else if w = 1 then nI f' else nI (tsum (fun a => cnt (EE ρ m a) a) n), B, upd μf 8 0), k4, ?_, ?_, inv_bench hI0 rfl rfl k7⟩
    · rw [show f10_laysRanks_l2 (upd μf 8 0) (nI n) (nI m) NF μA 0 = some (1, B) from k5, Option.bind_some, if_neg n10]
      exact j4
    · have ex : x = x' := by
        rcases k1 with ⟨h1, h2⟩ | ⟨a, h1, h2, h3⟩
        · rcases j1 with ⟨g1, g2⟩ | ⟨a', g1, g2, g3⟩
          · rw [h1, g1]
          · exact absurd g2 (h2 a' g1)
        · rcases j1 with ⟨g1, g2⟩ | ⟨a', g1, g2, g3⟩
          · exact absurd h2 (g2 a h1)
          · rw [h3, g3, wins_one h1 g1 h2 g2]
      have ef : f = f' := by
        have h1 := k3.1 f' j2
        have h2 := j3.1 f k2
        by_cases e : f < f'
        · have := j3.2 f e; omega
        · by_cases e2 : f' < f
          · have := k3.2 f' e2; omega
          · omega
      have et : tsum (rowc (EE ρ m) n) n = tsum (fun a => cnt (EE ρ m a) a) n := by
        refine tri_same (m := n) (fun a b ha hb hab => ?_) n (Nat.le_refl _)
        have := JJ_full (ρ := ρ) (a := a) (b := b) m (fun j hj h => hab (k6.2.1 j a b hj ha hb h))
        unfold EE
        by_cases q : 2 * JJ ρ m a b = m
        · rw [decide_eq_true q, decide_eq_true (by omega)]
        · rw [decide_eq_false q, decide_eq_false (by omega)]
      show (if w = 0 then x else if w = 1 then nI f else nI (tsum (rowc (EE ρ m) n) n)) = (if w = 0 then x' else if w = 1 then nI f' else nI (tsum (fun a => cnt (EE ρ m a) a) n))
      rw [ex, ef, et]
