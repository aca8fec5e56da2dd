theorem inv_steps {σf : Nat → Nat → Int32} {σA : Nat → Nat → Nat → Int32} {fW : Nat → Nat → Int32} {AW : Nat → Nat → Nat → Int32} {μf : Nat → Int32} {μA : Nat → Nat → Int32} (hI : INV σf σA fW AW μf μA) {A1 A2 : Nat → Nat → Int32} (f1 : A1 1 = σA 2 1) (f2 : ∀ j, j ≠ 45 → j ≠ 46 → j ≠ 47 → A2 j = μA j) : INV σf (cset σA 2 A1) fW AW μf A2 := by
  obtain ⟨T, nx, hB, hS, hT, hW, hK, hL, hX⟩ := hI
  refine ⟨T, nx, ?_, ?_, ?_, ?_, ?_, ?_, ?_⟩
  · show RB T nx (σf 2 0) (μf 6) (A1 1) (A2 3)
    rw [f1, f2 3 (by decide) (by decide) (by decide)]; exact hB
  · show RS T (σf 3) (σA 3) (A2 0)
    rw [f2 0 (by decide) (by decide) (by decide)]; exact hS
  · show RT (σf 1 1) (μf 8) (σA 1 0) (A2 7)
    rw [f2 7 (by decide) (by decide) (by decide)]; exact hT
  · show RW fW AW (A2 4) (A2 5)
    rw [f2 4 (by decide) (by decide) (by decide), f2 5 (by decide) (by decide) (by decide)]; exact hW
  · show RK T (σf 0 14) (μf 51) (σf 5) (σA 5) (A2 2)
    rw [f2 2 (by decide) (by decide) (by decide)]; exact hK
  · exact LAWR.congr (fL := σf 10) (AL := σA 10) (g := μf) (B := μA) hL rfl (fun _ _ => rfl) rfl (fun j h1 h2 => f2 j (by omega) (by omega) (by omega))
  · show RX (σA 12 0) (A2 43)
    rw [f2 43 (by decide) (by decide) (by decide)]; exact hX
theorem least_ex {P : Nat → Prop} {n : Nat} (h : ∃ i, i < n ∧ P i) : ∃ i, i < n ∧ P i ∧ ∀ j, j < i → ¬ P j := by
  obtain ⟨i, hi, hP⟩ := h
  induction n generalizing i with
  | zero => omega
  | succ n ih =>
    by_cases q : ∃ i, i < n ∧ P i
    · obtain ⟨i', h1, h2⟩ := q
      obtain ⟨i2, a, b, c⟩ := ih i' h1 h2
      exact ⟨i2, by omega, b, c⟩
    · have : i = n := by
        by_cases e : i = n
        · exact e
        · exact absurd ⟨i, by omega, hP⟩ q
      subst this
      exact ⟨i, by omega, hP, fun j hj hPj => q ⟨j, hj, hPj⟩⟩
/-- a place that is nearer by one -/
theorem closer_ex {nx : Nat → Nat} {s h : Nat} (hsym : ∀ p q, p < 16 → q < 16 → (nx p).testBit q = (nx q).testBit p) (hh : h < 16) (h0 : DD nx s h ≠ 0) (h16 : DD nx s h < 16) : ∃ c, c < 16 ∧ ((nx h).testBit c = true ∧ DD nx s c + 1 = DD nx s h) ∧ ∀ j, j < c → ¬ ((nx h).testBit j = true ∧ DD nx s j + 1 = DD nx s h) := by
  refine least_ex ?_
  obtain ⟨d, hd⟩ : ∃ d, DD nx s h = d + 1 := ⟨DD nx s h - 1, by omega⟩
  have e := (eb_DD (nx := nx) (s := s) (q := h) (k := d + 1) (by omega)).mpr hd
  obtain ⟨⟨p, hp, h1, h2⟩, h3⟩ := eb_next.mpr e
  have hp' := (eb_DD (nx := nx) (s := s) (q := p) (k := d) (by omega)).mp h1
  rcases h2 with h2 | h2
  · exact ⟨p, hp, by rw [hsym h p hh hp]; exact h2, by omega⟩
  · subst h2; omega
theorem st_pred {nx : Nat → Nat} {s h c : Nat} (h0 : DD nx s h ≠ 0) (h16 : DD nx s h < 16) : (st nx s c = nI (DD nx s h) - 1) ↔ DD nx s c + 1 = DD nx s h := by
  have e : nI (DD nx s h) - nI 1 = nI (DD nx s h - 1) := subI (by omega)
  rw [show (1 : Int32) = nI 1 from rfl, e, st_eq (by omega)]
  omega
theorem closer9 {f : Nat → Int32} {A : Nat → Nat → Int32} {nx : Nat → Nat} {s h c : Nat} (hn : ∀ p, p < 16 → A 1 p = nI (nx p) ∧ nx p < 65536) (hst : ∀ q, q < 16 → A 2 q = st nx s q) (hh : h < 16) (h0 : DD nx s h ≠ 0) (h16 : DD nx s h < 16) (hc : c < 16) (h1 : (nx h).testBit c = true ∧ DD nx s c + 1 = DD nx s h) (h2 : ∀ j, j < c → ¬ ((nx h).testBit j = true ∧ DD nx s j + 1 = DD nx s h)) : f1_lowestCloser f A (nI h) = some (nI c) := by
  unfold f1_lowestCloser
  refine loop_one (fun n (x : Int32) => f1_lowestCloser_l2 f A (nI h) n x) c (fun j x => x = nI j) (fun a => a = some (nI c)) (by omega) ?_ 0 rfl
  rintro n j x hj rfl
  have e2 : ∀ n i, f1_lowestCloser_l2 f A (nI h) (n + 1) i = f1_lowestCloser_b2 f A (nI h) (f1_lowestCloser_l2 f A (nI h) n) i := fun _ _ => rfl
  simp only [e2]
  generalize f1_lowestCloser_l2 f A (nI h) n = Kn
  unfold f1_lowestCloser_b2
  have hsth : A 2 h = nI (DD nx s h) := by rw [hst h hh]; unfold st; rw [if_pos h16]
  rw [if_neg (ge16 (show j < 16 by omega)), at_nI hh (by decide), (hn h hh).1, has9 (by have := (hn h hh).2; omega) (by omega), stepsTo_c (by omega), stepsTo_c hh, hst j (by omega), hsth, nI_s]
  by_cases e : j = c
  · subst e
    left
    rw [if_pos h1.1, if_neg n10, if_pos ((st_pred h0 h16).mpr h1.2)]
  · right
    have no := h2 j (by omega)
    refine ⟨by omega, nI (j + 1), ?_, rfl⟩
    by_cases q : (nx h).testBit j = true
    · rw [if_pos q, if_neg n10, if_neg (fun hh => no ⟨q, (st_pred h0 h16).mp hh⟩)]
    · rw [if_neg q, if_pos rfl]
theorem closer10 {g : Nat → Int32} {A : Nat → Nat → Int32} {nx : Nat → Nat} {s h c : Nat} {p1 p2 p3 k : Int32} {K : (Nat → Nat → Int32) → Int32 → Int32 → Option (Int32 × (Nat → Nat → Int32))} (hn : ∀ p, p < 16 → A 3 p = nI (nx p) ∧ nx p < 65536) (hst : ∀ q, q < 16 → A 46 q = st nx s q) (hh : h < 16) (h0 : DD nx s h ≠ 0) (h16 : DD nx s h < 16) (hc : c < 16) (h1 : (nx h).testBit c = true ∧ DD nx s c + 1 = DD nx s h) (h2 : ∀ j, j < c → ¬ ((nx h).testBit j = true ∧ DD nx s j + 1 = DD nx s h)) : f10_way_l89 g p1 p2 p3 K NF A (nI h) k 0 = K A (nI c) (k + 1) := by
  refine loop_one (fun n (x : Int32) => f10_way_l89 g p1 p2 p3 K n A (nI h) k x) c (fun j x => x = nI j) (fun a => a = K A (nI c) (k + 1)) (by omega) ?_ 0 rfl
  rintro n j x hj rfl
  have e2 : ∀ n i, f10_way_l89 g p1 p2 p3 K (n + 1) A (nI h) k i = f10_way_b89 g p1 p2 p3 K (f10_way_l89 g p1 p2 p3 K n) A (nI h) k i := fun _ _ => rfl
  simp only [e2]
  generalize f10_way_l89 g p1 p2 p3 K n = Kn
  unfold f10_way_b89
  have hsth : A 46 h = nI (DD nx s h) := by rw [hst h hh]; unfold st; rw [if_pos h16]
  rw [if_neg (nI_in hh (by decide)), gx_nI (by omega), (hn h hh).1, has10 (by have := (hn h hh).2; omega) (by omega), if_neg (nI_in (show j < 16 by omega) (by decide)), if_neg (nI_in hh (by decide)), gx_nI (by omega), gx_nI (by omega), hst j (by omega), hsth, nI_s]
  by_cases e : j = c
  · subst e
    left
    rw [if_pos h1.1, if_neg n10, if_pos ((st_pred h0 h16).mpr h1.2)]
  · right
    have no := h2 j (by omega)
    refine ⟨by omega, nI (j + 1), ?_, rfl⟩
    by_cases q : (nx h).testBit j = true
    · rw [if_pos q, if_neg n10, if_neg (fun hh => no ⟨q, (st_pred h0 h16).mp hh⟩)]
    · rw [if_neg q, if_pos rfl]
theorem ok_way : OK_way INV := by
  rintro σf σA fW AW μf μA x1 x2 x3 hI
  have hI0 := hI
  obtain ⟨T, nx, ⟨b1, b2, b3, b4, b5, b6, b7⟩, -⟩ := hI
  have none : ∃ (r : Int32 × (Nat → Nat → Int32)) (r' : Int32 × (Nat → Nat → Int32)), some ((-1 : Int32), σA 2) = some r ∧ some ((-1 : Int32), μA) = some r' ∧ r.1 = (r'.1) ∧ INV σf (cset σA 2 (r.2)) fW AW μf (r'.2) := ⟨_, _, rfl, rfl, rfl, by rw [cset_id]; exact hI0⟩
  unfold f9_way f10_way
  rcases told_c b1 b2 b3 x1 (AB := σA 2) (A := μA) with ⟨h1, h2⟩ | ⟨p, hp, rfl, hTp, u1, u2⟩
  · rw [if_pos h1, if_pos h2]; exact none
  rcases told_c b1 b2 b3 x2 (AB := σA 2) (A := μA) with ⟨h1, h2⟩ | ⟨q, hq, rfl, hTq, v1, v2⟩
  · rw [u1, if_neg n10, if_pos h1, u2, if_neg n10, if_pos h2]; exact none
  rw [u1, if_neg n10, v1, if_neg n10, u2, if_neg n10, v2, if_neg n10, in_eq]
  obtain ⟨A1, e1, hst1, f1⟩ := measure_c (f := σf 2) (A := σA 2) (nx := nx) hq (fun p hp => ⟨(b4 p hp).1, (b4 p hp).2.2⟩)
  obtain ⟨A2, e2, hst2, -, f2, -⟩ := lays_st (g := μf) (A := μA) (nx := nx) hq (fun p hp => ⟨(b4 p hp).2.1, (b4 p hp).2.2⟩)
  have hn1 : ∀ p, p < 16 → A1 1 p = nI (nx p) ∧ nx p < 65536 := fun p hp => by rw [f1 1 (by decide)]; exact ⟨(b4 p hp).1, (b4 p hp).2.2⟩
  have hn2 : ∀ p, p < 16 → A2 3 p = nI (nx p) ∧ nx p < 65536 := fun p hp => by rw [f2 3 (by decide) (by decide) (by decide)]; exact ⟨(b4 p hp).2.1, (b4 p hp).2.2⟩
  have hI' : INV σf (cset σA 2 A1) fW AW μf A2 := inv_steps hI0 (f1 1 (by decide)) f2
  have D16 := DD_16 nx q p
  have both : (x3 = 100 ∨ ∃ w, w ≤ 15 ∧ x3 = nI w) → ∃ (r : Int32 × (Nat → Nat → Int32)) (r' : Int32 × (Nat → Nat → Int32)), f9_way_b40 (σf 0) (σA 0) (σf 2) (nI p) (nI q) x3 (σA 2) = some r ∧ f10_way_b34 μf (nI p) (nI q) x3 μA = some r' ∧ r.1 = (r'.1) ∧ INV σf (cset σA 2 (r.2)) fW AW μf (r'.2) := by
    intro hx
    unfold f9_way_b40 f10_way_b34
    rw [e1, Option.bind_some, e2, Option.bind_some, stepsTo_c hp, hst1 p hp, if_neg (nI_in hp (by decide)), gx_nI (by omega), hst2 p hp]
    unfold st
    by_cases hd : ¬ DD nx q p < 16
    · rw [if_neg hd, if_neg (show ¬ (0 : Int32) ≤ -1 by decide), if_pos rfl]
      exact ⟨_, _, rfl, rfl, rfl, hI'⟩
    replace hd : DD nx q p < 16 := Classical.not_not.mp hd
    rw [if_pos hd, if_pos (show (0 : Int32) ≤ nI (DD nx q p) from nI_pos' (by omega)), if_neg (show ¬ nI (DD nx q p) = -1 by rw [show (-1 : Int32) = -nI 1 from rfl, eq_neg (by omega) (by omega) (by omega)]; exact not_false)]
    rcases hx with rfl | ⟨w, hw, rfl⟩
    · rw [if_pos rfl, if_pos rfl]
      exact ⟨_, _, rfl, rfl, rfl, hI'⟩
    have h100 : ¬ nI w = 100 := by rw [show (100 : Int32) = nI 100 from rfl, eqI (by omega) (by omega)]; omega
    rw [if_neg h100, if_neg h100]
    by_cases hwd : ¬ w ≤ DD nx q p
    · have hw' : ¬ nI w ≤ nI (DD nx q p) := by rw [leI (by omega) (by omega)]; exact hwd
      rw [if_neg hw', if_neg hw']
      exact ⟨_, _, rfl, rfl, rfl, hI'⟩
    replace hwd : w ≤ DD nx q p := Classical.not_not.mp hwd
    have hw' : nI w ≤ nI (DD nx q p) := by rw [leI (by omega) (by omega)]; exact hwd
    rw [if_pos hw', if_pos hw']
    unfold f1_stepTowards
    obtain ⟨c, e3, e4⟩ := loop_rel (fun n (x : Int32 × Int32) => f1_stepTowards_l5 (σf 2) A1 (nI p) (nI w) n x.1 x.2) (fun n (x : Int32 × Int32) => f10_way_l80 μf (nI p) (nI q) (nI w) n A2 x.1 x.2) w
      (fun i x y => ∃ h, x = (nI h, nI i) ∧ y = (nI h, nI i) ∧ h < 16 ∧ DD nx q h + i = DD nx q p) (fun a b => ∃ c, a = some c ∧ b = some (c, A2)) (by omega) (by
        rintro n m i x y hi ⟨h, rfl, rfl, hh, hdi⟩
        have ea : ∀ n x i, f1_stepTowards_l5 (σf 2) A1 (nI p) (nI w) (n + 1) x i = f1_stepTowards_b5 (σf 2) A1 (nI p) (nI w) (f1_stepTowards_l5 (σf 2) A1 (nI p) (nI w) n) x i := fun _ _ _ => rfl
        have eb : ∀ n x i, f10_way_l80 μf (nI p) (nI q) (nI w) (n + 1) A2 x i = f10_way_b80 μf (nI p) (nI q) (nI w) (f10_way_l80 μf (nI p) (nI q) (nI w) n) A2 x i := fun _ _ _ => rfl
        simp only [ea, eb]
        unfold f1_stepTowards_b5 f10_way_b80
        by_cases hiw : w ≤ i
        · left
          have : nI w ≤ nI i := by rw [leI (by omega) (by omega)]; exact hiw
          rw [if_pos this, if_pos this]
          exact ⟨_, rfl, rfl⟩
        right
        have hiw' : ¬ nI w ≤ nI i := by rw [leI (by omega) (by omega)]; exact hiw
        obtain ⟨c, c1, c2, c3⟩ := closer_ex (nx := nx) (s := q) b5 hh (by omega) (by omega)
        rw [if_neg hiw', if_neg hiw', if_neg (ge16 (show i < 16 by omega)), closer9 hn1 hst1 hh (by omega) (by omega) c1 c2 c3, Option.bind_some, closer10 hn2 hst2 hh (by omega) (by omega) c1 c2 c3, nI_s]
        exact ⟨by omega, (nI c, nI (i + 1)), (nI c, nI (i + 1)), rfl, rfl, c, rfl, rfl, c1, by omega⟩) (nI p, 0) (nI p, 0) ⟨p, rfl, rfl, hp, rfl⟩
    refine ⟨(c, A1), (c, A2), ?_, e4, rfl, hI'⟩
    show (f1_stepTowards_l5 (σf 2) A1 (nI p) (nI w) NF (nI p) 0).bind _ = _
    rw [show f1_stepTowards_l5 (σf 2) A1 (nI p) (nI w) NF (nI p) 0 = some c from e3]
    rfl
  by_cases h100 : x3 = 100
  · have w0 : f9_within x3 0 15 = 0 := by rw [h100]; decide
    rw [if_pos h100, if_pos w0, if_pos h100]
    exact both (Or.inl h100)
  rcases within_c x3 (A := 0) (B := 15) (a := 0) (b := 15) rfl rfl (by decide) (by decide) with ⟨h, _⟩ | ⟨h, w, _, hw, rfl⟩
  · rw [if_neg h100, if_pos h, if_pos h, if_neg h100]; exact none
  · rw [if_neg h100, h, if_neg n10, if_neg n10]
    exact both (Or.inr ⟨w, hw, rfl⟩)
theorem ok_nearest : OK_nearest INV := by
  rintro σf σA fW AW μf μA x1 x2 hI
  have hI0 := hI
  obtain ⟨T, nx, ⟨b1, b2, b3, b4, b5, b6, b7⟩, hS, -⟩ := hI
  obtain ⟨hr, F, w, -, m1, m2, m3⟩ := hS.split
  have none : ∃ (r : Int32 × (Nat → Nat → Int32)) (r' : Int32 × (Nat → Nat → Int32)), some ((-1 : Int32), σA 2) = some r ∧ some ((-1 : Int32), μA) = some r' ∧ r.1 = (r'.1) ∧ INV σf (cset σA 2 (r.2)) fW AW μf (r'.2) := ⟨_, _, rfl, rfl, rfl, by rw [cset_id]; exact hI0⟩
  unfold f9_nearest f10_nearest
  rcases told_c b1 b2 b3 x1 (AB := σA 2) (A := μA) with ⟨h1, h2⟩ | ⟨p, hp, rfl, hTp, u1, u2⟩
  · rw [if_pos h1, if_pos h2]; exact none
  rw [u1, if_neg n10, u2, if_neg n10, in_eq]
  rcases within_c x2 (A := 0) (B := 1) (a := 0) (b := 1) rfl rfl (by decide) (by decide) with ⟨h, _⟩ | ⟨h, v, _, hv, rfl⟩
  · rw [if_pos h, if_pos h]; exact none
  obtain ⟨A1, e1, hst1, f1⟩ := measure_c (f := σf 2) (A := σA 2) (nx := nx) hp (fun p hp => ⟨(b4 p hp).1, (b4 p hp).2.2⟩)
  obtain ⟨A2, e2, hst2, -, f2, -⟩ := lays_st (g := μf) (A := μA) (nx := nx) hp (fun p hp => ⟨(b4 p hp).2.1, (b4 p hp).2.2⟩)
  have hI' : INV σf (cset σA 2 A1) fW AW μf A2 := inv_steps hI0 (f1 1 (by decide)) f2
  rw [h, if_neg n10, if_neg n10, e1, Option.bind_some, e2, Option.bind_some]
  have z0 : A2 0 = μA 0 := f2 0 (by decide) (by decide) (by decide)
  obtain ⟨r, e3, e4⟩ := loop_rel (fun n (x : Int32 × Int32 × Int32) => f9_nearest_l40 (σf 0) (σA 0) (σf 2) (σf 3) (σA 3) (nI p) (nI v) n A1 x.1 x.2.1 x.2.2) (fun n (x : Int32 × Int32 × Int32) => f10_nearest_l35 μf (nI p) (nI v) n A2 x.1 x.2.1 x.2.2) 8
    (fun j x y => (x = (-nI 2, -nI 2, nI j) ∧ y = (-nI 2, nI 1000000, nI j)) ∨ (∃ c d, c < 8 ∧ d < 16 ∧ x = (nI c, nI d, nI j) ∧ y = (nI c, nI d, nI j))) (fun a b => ∃ r, a = some (r, A1) ∧ b = some (r, A2)) (by decide) (by
      rintro n m j x y hj hP
      have ea : ∀ n x y i, f9_nearest_l40 (σf 0) (σA 0) (σf 2) (σf 3) (σA 3) (nI p) (nI v) (n + 1) A1 x y i = f9_nearest_b40 (σf 0) (σA 0) (σf 2) (σf 3) (σA 3) (nI p) (nI v) (f9_nearest_l40 (σf 0) (σA 0) (σf 2) (σf 3) (σA 3) (nI p) (nI v) n) A1 x y i := fun _ _ _ _ => rfl
      have eb : ∀ n x y i, f10_nearest_l35 μf (nI p) (nI v) (n + 1) A2 x y i = f10_nearest_b35 μf (nI p) (nI v) (f10_nearest_l35 μf (nI p) (nI v) n) A2 x y i := fun _ _ _ _ => rfl
      simp only [ea, eb]
      unfold f9_nearest_b40 f10_nearest_b35
      by_cases h8 : 8 ≤ j
      · left
        have : j = 8 := by omega
        subst this
        rcases hP with ⟨rfl, rfl⟩ | ⟨c, d, hc, hd, rfl, rfl⟩
        · simp (maxSteps := 3000000) (disch := omega) only [litI, letv, eqI, leI, ltI, addI, mulI, subI, clI, addneg, at_nI, put_nI, nI_s, orI, shl1I, ifb0, ifb1, Option.bind_some, gx, ux, Nat.add_zero, Nat.zero_add, Nat.not_lt_zero, false_or, or_false, Nat.mul_zero, Nat.zero_mul, if_pos]
          by_cases hv0 : v = 0
          · simp (maxSteps := 3000000) (disch := omega) only [hv0, if_true]; exact ⟨_, rfl, rfl⟩
          · simp (maxSteps := 3000000) (disch := omega) only [hv0, if_false]; exact ⟨_, rfl, rfl⟩
        · simp (maxSteps := 3000000) (disch := omega) only [litI, letv, eqI, leI, ltI, addI, mulI, subI, clI, addneg, at_nI, put_nI, nI_s, orI, shl1I, ifb0, ifb1, Option.bind_some, gx, ux, Nat.add_zero, Nat.zero_add, Nat.not_lt_zero, false_or, or_false, Nat.mul_zero, Nat.zero_mul, if_pos, eq_neg, if_false]
          by_cases hv0 : v = 0
          · simp (maxSteps := 3000000) (disch := omega) only [hv0, if_true]; exact ⟨_, rfl, rfl⟩
          · simp (maxSteps := 3000000) (disch := omega) only [hv0, if_false]; exact ⟨_, rfl, rfl⟩
      right
      refine ⟨by omega, ?_⟩
      obtain ⟨a1, a2, a3, a4, -⟩ := m3 j (by omega)
      have hsj := hst1 (w j) a2
      have hsj2 := hst2 (w j) a2
      have man := man10 (f := μf) (A := A2) (F := F) (fun c hc => by rw [z0]; exact (m3 c hc).1) (c := j) (by omega)
      have a4' : A2 0 (56 + j) = nI (w j) := by rw [z0]; exact a4
      have j8 : j < 8 := by omega
      have sx : f1_stepsTo (σf 2) A1 (nI (w j)) = st nx p (w j) := by rw [stepsTo_c a2, hsj]
      unfold st at sx hsj2
      have D16 := DD_16 nx p (w j)
      unfold f9_nearest_b82
      rcases hP with ⟨rfl, rfl⟩ | ⟨c, d, hc, hd, rfl, rfl⟩
      · by_cases q : F.testBit j = true
        · by_cases dd : DD nx p (w j) < 16
          · rw [if_pos dd] at sx hsj2
            simp (maxSteps := 3000000) (disch := omega) only [litI, letv, eqI, leI, ltI, addI, mulI, subI, clI, addneg, at_nI, put_nI, nI_s, orI, shl1I, ifb0, ifb1, Option.bind_some, gx, ux, Nat.add_zero, Nat.zero_add, Nat.not_lt_zero, false_or, or_false, Nat.mul_zero, Nat.zero_mul, man9 m1 m2, man, q, if_neg, if_true, a3, a4', sx, hsj2, eq_neg, neg_lt, if_pos]
            exact ⟨(_, _, _), (_, _, _), rfl, rfl, Or.inr ⟨j, DD nx p (w j), j8, dd, rfl, rfl⟩⟩
          · rw [if_neg dd] at sx hsj2
            have sx' : f1_stepsTo (σf 2) A1 (nI (w j)) = -nI 1 := sx
            have hsj2' : A2 46 (w j) = -nI 1 := hsj2
            simp (maxSteps := 3000000) (disch := omega) only [litI, letv, eqI, leI, ltI, addI, mulI, subI, clI, addneg, at_nI, put_nI, nI_s, orI, shl1I, ifb0, ifb1, Option.bind_some, gx, ux, Nat.add_zero, Nat.zero_add, Nat.not_lt_zero, false_or, or_false, Nat.mul_zero, Nat.zero_mul, man9 m1 m2, man, q, if_neg, if_true, a3, a4', sx', hsj2', eq_neg, neg_lt, if_pos]
            exact ⟨(_, _, _), (_, _, _), rfl, rfl, Or.inl ⟨rfl, rfl⟩⟩
        · simp (maxSteps := 3000000) (disch := omega) only [litI, letv, eqI, leI, ltI, addI, mulI, subI, clI, addneg, at_nI, put_nI, nI_s, orI, shl1I, ifb0, ifb1, Option.bind_some, gx, ux, Nat.add_zero, Nat.zero_add, Nat.not_lt_zero, false_or, or_false, Nat.mul_zero, Nat.zero_mul, man9 m1 m2, man, q, Bool.false_eq_true, not_false_eq_true, if_true, neg_lt, if_neg]
          exact ⟨(_, _, _), (_, _, _), rfl, rfl, Or.inl ⟨rfl, rfl⟩⟩
      · by_cases q : F.testBit j = true
        · by_cases dd : DD nx p (w j) < 16
          · rw [if_pos dd] at sx hsj2
            simp (maxSteps := 3000000) (disch := omega) only [litI, letv, eqI, leI, ltI, addI, mulI, subI, clI, addneg, at_nI, put_nI, nI_s, orI, shl1I, ifb0, ifb1, Option.bind_some, gx, ux, Nat.add_zero, Nat.zero_add, Nat.not_lt_zero, false_or, or_false, Nat.mul_zero, Nat.zero_mul, man9 m1 m2, man, q, if_neg, if_true, a3, a4', sx, hsj2, eq_neg, neg_lt, if_pos]
            by_cases u : d ≤ DD nx p (w j)
            · simp (maxSteps := 3000000) (disch := omega) only [if_pos u, if_neg]
              exact ⟨(_, _, _), (_, _, _), rfl, rfl, Or.inr ⟨c, d, hc, hd, rfl, rfl⟩⟩
            · simp (maxSteps := 3000000) (disch := omega) only [if_neg u, if_pos]
              exact ⟨(_, _, _), (_, _, _), rfl, rfl, Or.inr ⟨j, DD nx p (w j), j8, dd, rfl, rfl⟩⟩
          · rw [if_neg dd] at sx hsj2
            have sx' : f1_stepsTo (σf 2) A1 (nI (w j)) = -nI 1 := sx
            have hsj2' : A2 46 (w j) = -nI 1 := hsj2
            simp (maxSteps := 3000000) (disch := omega) only [litI, letv, eqI, leI, ltI, addI, mulI, subI, clI, addneg, at_nI, put_nI, nI_s, orI, shl1I, ifb0, ifb1, Option.bind_some, gx, ux, Nat.add_zero, Nat.zero_add, Nat.not_lt_zero, false_or, or_false, Nat.mul_zero, Nat.zero_mul, man9 m1 m2, man, q, if_neg, if_true, a3, a4', sx', hsj2', eq_neg, neg_lt, if_pos]
            exact ⟨(_, _, _), (_, _, _), rfl, rfl, Or.inr ⟨c, d, hc, hd, rfl, rfl⟩⟩
        · simp (maxSteps := 3000000) (disch := omega) only [litI, letv, eqI, leI, ltI, addI, mulI, subI, clI, addneg, at_nI, put_nI, nI_s, orI, shl1I, ifb0, ifb1, Option.bind_some, gx, ux, Nat.add_zero, Nat.zero_add, Nat.not_lt_zero, false_or, or_false, Nat.mul_zero, Nat.zero_mul, man9 m1 m2, man, q, Bool.false_eq_true, not_false_eq_true, if_true, neg_lt, if_neg]
          exact ⟨(_, _, _), (_, _, _), rfl, rfl, Or.inr ⟨c, d, hc, hd, rfl, rfl⟩⟩) (-2, -2, 0) (-2, 1000000, 0) (Or.inl ⟨rfl, rfl⟩)
  exact ⟨(r, A1), (r, A2), e3, e4, rfl, hI'⟩
