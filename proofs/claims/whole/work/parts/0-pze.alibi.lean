theorem wkb_pre {nx : Nat → Nat} {a r : Nat} (hr : r < 16) (ha : a < 16) (h : (nx a).testBit r = true) : ∀ k q, wkb nx r k q = true → wkb nx a (k + 1) q = true := by
  intro k
  induction k with
  | zero =>
    intro q hq
    have := wkb_0.mp hq
    subst this
    exact wkb_s.mpr (Or.inr ⟨a, ha, wkb_self, h⟩)
  | succ k ih =>
    intro q hq
    rcases wkb_s.mp hq with h1 | ⟨t, ht, h1, h2⟩
    · exact wkb_mono (Nat.le_succ _) (ih q h1)
    · exact wkb_s.mpr (Or.inr ⟨t, ht, ih t h1, h2⟩)
theorem wkb_sym {nx : Nat → Nat} (hsym : ∀ p q, p < 16 → q < 16 → (nx p).testBit q = (nx q).testBit p) {s : Nat} (hs : s < 16) : ∀ k q, q < 16 → wkb nx s k q = true → wkb nx q k s = true := by
  intro k
  induction k with
  | zero =>
    intro q _ h
    exact wkb_0.mpr (wkb_0.mp h).symm
  | succ k ih =>
    intro q hq h
    rcases wkb_s.mp h with h1 | ⟨t, ht, h1, h2⟩
    · exact wkb_mono (Nat.le_succ _) (ih q hq h1)
    · exact wkb_pre ht hq (by rw [hsym q t hq ht]; exact h2) k s (ih t ht h1)
theorem DD_sym {nx : Nat → Nat} (hsym : ∀ p q, p < 16 → q < 16 → (nx p).testBit q = (nx q).testBit p) {s q : Nat} (hs : s < 16) (hq : q < 16) : DD nx s q = DD nx q s := by
  have one : ∀ a b, a < 16 → b < 16 → DD nx a b ≤ DD nx b a := fun a b ha hb => by
    by_cases h : DD nx b a < 16
    · have := (DD_le (nx := nx) (s := b) (q := a) (k := DD nx b a) h).mp (Nat.le_refl _)
      exact (DD_le (nx := nx) (s := a) (q := b) (k := DD nx b a) h).mpr (wkb_sym hsym hb _ a ha this)
    · have := DD_16 nx a b
      omega
  have h1 := one s q hs hq
  have h2 := one q s hq hs
  omega
theorem wkb_trans {nx : Nat → Nat} {a p k : Nat} (h : wkb nx a k p = true) : ∀ l q, wkb nx p l q = true → wkb nx a (k + l) q = true := by
  intro l
  induction l with
  | zero =>
    intro q hq
    have := wkb_0.mp hq
    subst this
    exact h
  | succ l ih =>
    intro q hq
    rcases wkb_s.mp hq with h1 | ⟨t, ht, h1, h2⟩
    · exact wkb_mono (Nat.le_succ _) (ih q h1)
    · exact wkb_s.mpr (Or.inr ⟨t, ht, ih t h1, h2⟩)
theorem DD_tri {nx : Nat → Nat} (hn : ∀ p, p < 16 → nx p < 65536) {a p b : Nat} (ha : a < 16) (hb : b < 16) (h1 : DD nx a p < 16) (h2 : DD nx p b < 16) : DD nx a b < 16 ∧ DD nx a b ≤ DD nx a p + DD nx p b := by
  have w1 := (DD_le (nx := nx) (s := a) (q := p) h1).mp (Nat.le_refl _)
  have w2 := (DD_le (nx := nx) (s := p) (q := b) h2).mp (Nat.le_refl _)
  have w := wkb_trans w1 _ _ w2
  have f := DD_fin ha hb hn w
  refine ⟨f, ?_⟩
  by_cases q : DD nx a p + DD nx p b < 16
  · exact (DD_le q).mpr w
  · omega
/-- FAR where there is no way -/
def far (nx : Nat → Nat) (s q : Nat) : Nat := if DD nx s q < 16 then DD nx s q else 1000000
theorem orFar_c {g : Nat → Int32} {A : Nat → Nat → Int32} {nx : Nat → Nat} {s q : Nat} (hst : ∀ q, q < 16 → A 46 q = st nx s q) (hq : q < 16) : f10_stepsOrFar g A (nI q) = some (nI (far nx s q)) := by
  unfold f10_stepsOrFar
  rw [if_neg (nI_in hq (by decide)), gx_nI (by omega), hst q hq, if_neg (nI_in hq (by decide))]
  unfold st far
  by_cases h : DD nx s q < 16
  · rw [if_pos h, if_pos h, if_neg (show ¬ nI (DD nx s q) = -1 by rw [show (-1 : Int32) = -nI 1 from rfl, eq_neg (by omega) (by omega) (by omega)]; exact not_false)]
  · rw [if_neg h, if_neg h, if_pos rfl]; rfl
theorem sub_lt {a b c : Nat} (ha : a < 1000) (hb : b < 1000) (hc : c < 1073741824) : (nI a - nI b < nI c) = ((a : Int) - b < c) := by
  apply propext
  rw [Int32.lt_iff_toInt_lt, pk_sub_toInt (by omega) (by omega), nI_toInt (by omega)]
theorem reaches_c {f0 fB : Nat → Int32} {A0 A : Nat → Nat → Int32} {nx : Nat → Nat} {s q a b : Nat} (hst : ∀ q, q < 16 → A 2 q = st nx s q) (hq : q < 16) (ha : a < 1000) (hb : b < 1000) : f9_reaches f0 A0 fB A (nI q) (nI a - nI b) = if ((far nx s q : Nat) : Int) ≤ (a : Int) - b then nI 1 else nI 0 := by
  unfold f9_reaches
  rw [stepsTo_c hq, hst q hq]
  unfold st far
  by_cases h : DD nx s q < 16
  · rw [if_pos h, if_pos h, if_neg (show ¬ nI (DD nx s q) < 0 from nI_pos (by omega))]
    by_cases u : (a : Int) - b < (DD nx s q : Nat)
    · rw [if_pos (by rw [sub_lt ha hb (by omega)]; exact u), if_neg (by omega)]; rfl
    · rw [if_neg (by rw [sub_lt ha hb (by omega)]; exact u), if_pos (by omega)]; rfl
  · rw [if_neg h, if_neg h, if_pos (show (-1 : Int32) < 0 by decide), if_neg (by omega)]; rfl
theorem ok_alibis : OK_alibis INV := by
  rintro σf σA fW AW μf μA x1 x2 x3 hI
  have hI0 := hI
  obtain ⟨T, nx, ⟨b1, b2, b3, b4, b5, b6, b7⟩, -, hT, -, -, -, -⟩ := hI
  obtain ⟨sz, b, t1, t2, t3, t4, t5⟩ := hT.bytes
  have none : ∃ (r : Int32 × (Nat → Int32) × (Nat → Nat → Int32)) (r' : Int32 × (Nat → Nat → Int32) × (Nat → Int32)), some ((-1 : Int32), σf 1, σA 2) = some r ∧ some ((-1 : Int32), μA, μf) = some r' ∧ r.1 = (r'.1) ∧ INV (cset σf 1 (r.2.1)) (cset σA 2 (r.2.2)) fW AW (r'.2.2) (r'.2.1) := ⟨_, _, rfl, rfl, rfl, by rw [cset_id, cset_id]; exact hI0⟩
  unfold f9_alibis f10_alibis
  rw [in_eq]
  rcases within_c x1 (A := 1) (B := 10) (a := 1) (b := 10) rfl rfl (by decide) (by decide) with ⟨h, _⟩ | ⟨h, n, hn0, hn, rfl⟩
  · rw [if_pos h, if_pos h]; exact none
  rw [h, if_neg n10, if_neg n10]
  rcases told_c b1 b2 b3 x2 (AB := σA 2) (A := μA) with ⟨h1, h2⟩ | ⟨p, hp, rfl, hTp, u1, u2⟩
  · rw [if_pos h1, if_pos h2]; exact none
  rw [u1, if_neg n10, u2, if_neg n10]
  rcases within_c x3 (A := 0) (B := 255) (a := 0) (b := 255) rfl rfl (by decide) (by decide) with ⟨h3, _⟩ | ⟨h3, hr, _, hhr, rfl⟩
  · rw [if_pos h3, if_pos h3]; exact none
  rw [h3, if_neg n10, if_neg n10, show (4 : Int32) * nI n = nI (4 * n) from mulI 4 n, holds_c t2 t1 (by omega), t3]
  by_cases hm : ¬ 4 * n ≤ sz
  · simp (maxSteps := 3000000) (disch := omega) only [if_neg hm, litI, letv, eqI, leI, ltI, addI, mulI, subI, clI, addneg, at_nI, put_nI, nI_s, orI, shl1I, ifb0, ifb1, Option.bind_some, gx, ux, Nat.add_zero, Nat.zero_add, Nat.not_lt_zero, false_or, or_false, Nat.mul_zero, Nat.zero_mul, if_true]
    exact none
  replace hm : 4 * n ≤ sz := Classical.not_not.mp hm
  have hb1 : ∀ i, i < 4 * n → σA 1 0 i = nI (b i) := fun i hi => (t5 i (by omega)).1
  have hb2 : ∀ i, i < 4 * n → μA 7 i &&& 255 = nI (b i) := fun i hi => (t5 i (by omega)).2
  have hn' : 4 * n ≤ 260 := by omega
  have hbits : ∀ p, p < 16 → nx p < 65536 := fun p hp => (b4 p hp).2.2
  simp (maxSteps := 3000000) (disch := omega) only [if_pos hm, litI, letv, eqI, leI, ltI, addI, mulI, subI, clI, addneg, at_nI, put_nI, nI_s, orI, shl1I, ifb0, ifb1, Option.bind_some, gx, ux, Nat.add_zero, Nat.zero_add, Nat.not_lt_zero, false_or, or_false, Nat.mul_zero, Nat.zero_mul, if_neg, if_true]
  -- what is sworn, one by one
  have inner : (∀ i, i < n → T.testBit (b (4 * i)) = true ∧ T.testBit (b (4 * i + 2)) = true) → ∃ r r', (f1_measure (σf 2) (σA 2) (nI p)).bind (fun q_2 => f9_alibis_l133 (σf 0) (σA 0) (σA 1) (σf 2) (nI n) (nI p) (nI hr) NF (f7_open (σf 1) (σA 1) (nI (4 * n))) q_2 0 0) = some r ∧ f10_alibis_l102 (nI n) (nI p) (nI hr) NF μA (upd μf 8 (nI 0)) 0 0 = some r' ∧ r.1 = r'.1 ∧ INV (cset σf 1 (r.2.1)) (cset σA 2 (r.2.2)) fW AW (r'.2.2) (r'.2.1) := by
    intro hall
    have lt16 : ∀ x, T.testBit x = true → x < 16 := fun x hx => by
      by_cases h : x < 16
      · exact h
      · rw [Nat.testBit_lt_two_pow (Nat.lt_of_lt_of_le b1 (Nat.pow_le_pow_right (n := 2) (i := 16) (by decide) (by omega)))] at hx
        exact absurd hx (by decide)
    obtain ⟨A1, e1, hst1, f1⟩ := measure_c (f := σf 2) (A := σA 2) (nx := nx) hp (fun p hp => ⟨(b4 p hp).1, (b4 p hp).2.2⟩)
    rw [e1, Option.bind_some]
    obtain ⟨r, A2, e2, e3, f2⟩ := loop_rel (fun k (s : Int32 × Int32) => f9_alibis_l133 (σf 0) (σA 0) (σA 1) (σf 2) (nI n) (nI p) (nI hr) k (f7_open (σf 1) (σA 1) (nI (4 * n))) A1 s.1 s.2) (fun k (s : (Nat → Nat → Int32) × Int32 × Int32) => f10_alibis_l102 (nI n) (nI p) (nI hr) k s.1 (upd μf 8 (nI 0)) s.2.1 s.2.2) n
      (fun j s t => ∃ x A2, s = (x, nI j) ∧ t = (A2, x, nI j) ∧ ∀ j, j ≠ 45 → j ≠ 46 → j ≠ 47 → A2 j = μA j) (fun P Q => ∃ r A2, P = some (r, f7_open (σf 1) (σA 1) (nI (4 * n)), A1) ∧ Q = some (r, A2, upd μf 8 (nI 0)) ∧ ∀ j, j ≠ 45 → j ≠ 46 → j ≠ 47 → A2 j = μA j) (by omega) (by
        rintro k m j s t hj ⟨x, A2, rfl, rfl, hf⟩
        have ea : ∀ k x i, f9_alibis_l133 (σf 0) (σA 0) (σA 1) (σf 2) (nI n) (nI p) (nI hr) (k + 1) (f7_open (σf 1) (σA 1) (nI (4 * n))) A1 x i = f9_alibis_b133 (σf 0) (σA 0) (σA 1) (σf 2) (nI n) (nI p) (nI hr) (f9_alibis_l133 (σf 0) (σA 0) (σA 1) (σf 2) (nI n) (nI p) (nI hr) k) (f7_open (σf 1) (σA 1) (nI (4 * n))) A1 x i := fun _ _ _ => rfl
        have eb : ∀ k A x i, f10_alibis_l102 (nI n) (nI p) (nI hr) (k + 1) A (upd μf 8 (nI 0)) x i = f10_alibis_b102 (nI n) (nI p) (nI hr) (f10_alibis_l102 (nI n) (nI p) (nI hr) k) A (upd μf 8 (nI 0)) x i := fun _ _ _ _ => rfl
        simp only [ea, eb]
        unfold f9_alibis_b133 f10_alibis_b102
        by_cases hjn : n ≤ j
        · left
          have : nI n ≤ nI j := by rw [leI (by omega) (by omega)]; exact hjn
          rw [if_pos this, if_pos this]
          exact ⟨_, _, rfl, rfl, hf⟩
        right
        refine ⟨by omega, ?_⟩
        obtain ⟨h1, h2⟩ := hall j (by omega)
        have l1 := lt16 _ h1
        have l2 := lt16 _ h2
        obtain ⟨A3, c1, c2, -, c3, -⟩ := lays_st (g := upd μf 8 (nI 0)) (A := A2) (nx := nx) l1 (fun p hp => by rw [hf 3 (by decide) (by decide) (by decide)]; exact ⟨(b4 p hp).2.1, (b4 p hp).2.2⟩)
        obtain ⟨A4, d1, d2, -, d3, -⟩ := lays_st (g := upd μf 8 (nI 0)) (A := A3) (nx := nx) l2 (fun p hp => by rw [c3 3 (by decide) (by decide) (by decide), hf 3 (by decide) (by decide) (by decide)]; exact ⟨(b4 p hp).2.1, (b4 p hp).2.2⟩)
        have t7 : ∀ i, i < 4 * n → A2 7 i &&& 255 = nI (b i) := fun i hi => by rw [hf 7 (by decide) (by decide) (by decide)]; exact hb2 i hi
        have t7' : ∀ i, i < 4 * n → A3 7 i &&& 255 = nI (b i) := fun i hi => by rw [c3 7 (by decide) (by decide) (by decide)]; exact t7 i hi
        have t7'' : ∀ i, i < 4 * n → A4 7 i &&& 255 = nI (b i) := fun i hi => by rw [d3 7 (by decide) (by decide) (by decide)]; exact t7' i hi
        have g0 := t4 (4 * j); have g1 := t4 (4 * j + 1); have g2 := t4 (4 * j + 2); have g3 := t4 (4 * j + 3)
        have r1 := reaches_c (f0 := σf 0) (A0 := σA 0) (fB := σf 2) hst1 l1 (a := hr) (b := b (4 * j + 1)) (by omega) (by omega)
        have r2 := reaches_c (f0 := σf 0) (A0 := σA 0) (fB := σf 2) hst1 l2 (a := b (4 * j + 3)) (b := hr) (by omega) (by omega)
        have o1 := orFar_c (g := upd μf 8 (nI 0)) c2 l2
        have o2 := orFar_c (g := upd μf 8 (nI 0)) c2 hp
        have o3 := orFar_c (g := upd μf 8 (nI 0)) d2 hp
        have fl : ∀ a c, far nx a c < 1073741824 := fun a c => by
          unfold far
          split <;> omega
        have fl1 := fl (b (4 * j)) (b (4 * j + 2))
        have fl2 := fl (b (4 * j)) p
        have fl3 := fl (b (4 * j + 2)) p
        have s1 : far nx (b (4 * j)) p = far nx p (b (4 * j)) := by unfold far; rw [DD_sym b5 l1 hp]
        have s2 : far nx (b (4 * j + 2)) p = far nx p (b (4 * j + 2)) := by unfold far; rw [DD_sym b5 l2 hp]
        have tri : ((far nx p (b (4 * j)) : Nat) : Int) ≤ (hr : Int) - b (4 * j + 1) → ((far nx p (b (4 * j + 2)) : Nat) : Int) ≤ (b (4 * j + 3) : Int) - hr → ((far nx (b (4 * j)) (b (4 * j + 2)) : Nat) : Int) ≤ (b (4 * j + 3) : Int) - b (4 * j + 1) := by
          intro w1 w2
          unfold far at w1 w2 ⊢
          by_cases z1 : DD nx p (b (4 * j)) < 16
          · by_cases z2 : DD nx p (b (4 * j + 2)) < 16
            · rw [if_pos z1] at w1
              rw [if_pos z2] at w2
              obtain ⟨y1, y2⟩ := DD_tri hbits (a := b (4 * j)) (p := p) (b := b (4 * j + 2)) l1 l2 (by rw [DD_sym b5 l1 hp]; exact z1) z2
              rw [DD_sym b5 l1 hp] at y2
              rw [if_pos y1]
              omega
            · rw [if_neg z2] at w2
              omega
          · rw [if_neg z1] at w1
            omega
        simp (maxSteps := 3000000) (disch := omega) only [if_neg, leI, byteAt_c open_2 hn' hb1, octet_c hn' t7, octet_c hn' t7', octet_c hn' t7'', litI, letv, eqI, leI, ltI, addI, mulI, subI, clI, addneg, at_nI, put_nI, nI_s, orI, shl1I, ifb0, ifb1, Option.bind_some, gx, ux, Nat.add_zero, Nat.zero_add, Nat.not_lt_zero, false_or, or_false, Nat.mul_zero, Nat.zero_mul, c1, d1, o1, o2, o3, sub_lt]
        rw [s1, s2]
        simp only [r1, r2]
        by_cases w1 : ((far nx p (b (4 * j)) : Nat) : Int) ≤ (hr : Int) - b (4 * j + 1)
        · by_cases w2 : ((far nx p (b (4 * j + 2)) : Nat) : Int) ≤ (b (4 * j + 3) : Int) - hr
          · have w3 := tri w1 w2
            simp (maxSteps := 3000000) (disch := omega) only [ifb0, w1, w2, not_true, if_false, if_neg]
            exact ⟨(x ||| nI (2 ^ j), nI (j + 1)), (A4, x ||| nI (2 ^ j), nI (j + 1)), rfl, rfl, _, A4, rfl, rfl, fun i a b c => (d3 i a b c).trans ((c3 i a b c).trans (hf i a b c))⟩
          · have w3 : ((b (4 * j + 3) : Nat) : Int) - hr < (far nx p (b (4 * j + 2)) : Nat) := by omega
            simp (maxSteps := 3000000) (disch := omega) only [ifb0, w1, w2, w3, not_true, not_false_eq_true, if_false, if_true, ite_self]
            exact ⟨(x, nI (j + 1)), (A4, x, nI (j + 1)), rfl, rfl, _, A4, rfl, rfl, fun i a b c => (d3 i a b c).trans ((c3 i a b c).trans (hf i a b c))⟩
        · have w3 : (hr : Int) - (b (4 * j + 1) : Nat) < (far nx p (b (4 * j)) : Nat) := by omega
          simp (maxSteps := 3000000) (disch := omega) only [ifb0, w1, w3, not_true, not_false_eq_true, if_false, if_true, ite_self]
          exact ⟨(x, nI (j + 1)), (A4, x, nI (j + 1)), rfl, rfl, _, A4, rfl, rfl, fun i a b c => (d3 i a b c).trans ((c3 i a b c).trans (hf i a b c))⟩) (0, 0) (μA, 0, 0) ⟨0, μA, rfl, rfl, fun _ _ _ _ => rfl⟩
    refine ⟨(r, f7_open (σf 1) (σA 1) (nI (4 * n)), A1), (r, A2, upd μf 8 (nI 0)), e2, e3, rfl, ?_⟩
    exact inv_steps (σf := cset σf 1 (f7_open (σf 1) (σA 1) (nI (4 * n)))) (μf := upd μf 8 (nI 0)) (inv_tape0 hI0 rfl rfl) (f1 1 (by decide)) f2
  have INVz : INV (cset σf 1 (f7_open (σf 1) (σA 1) (nI (4 * n)))) (cset σA 2 (σA 2)) fW AW (upd μf 8 (nI 0)) μA := by
    rw [cset_id]; exact inv_tape0 hI0 rfl rfl
  have b3' : upd μf 8 (nI 0) 6 = nI T := b3
  refine loop_rel (fun k (s : Int32) => f9_alibis_l60 (σf 0) (σA 0) (σA 1) (σf 2) (nI n) (nI p) (nI hr) k (f7_open (σf 1) (σA 1) (nI (4 * n))) (σA 2) s) (fun k (s : Int32) => f10_alibis_l49 (nI n) (nI p) (nI hr) k μA (upd μf 8 (nI 0)) s) n
    (fun j s t => s = nI j ∧ t = nI j ∧ ∀ i, i < j → T.testBit (b (4 * i)) = true ∧ T.testBit (b (4 * i + 2)) = true) (fun P Q => ∃ r r', P = some r ∧ Q = some r' ∧ r.1 = r'.1 ∧ INV (cset σf 1 (r.2.1)) (cset σA 2 (r.2.2)) fW AW (r'.2.2) (r'.2.1)) (by omega) ?_ (nI 0) (nI 0) ⟨rfl, rfl, fun i hi => absurd hi (by omega)⟩
  rintro k m j s t hj ⟨rfl, rfl, hall⟩
  have ea : ∀ k i, f9_alibis_l60 (σf 0) (σA 0) (σA 1) (σf 2) (nI n) (nI p) (nI hr) (k + 1) (f7_open (σf 1) (σA 1) (nI (4 * n))) (σA 2) i = f9_alibis_b60 (σf 0) (σA 0) (σA 1) (σf 2) (nI n) (nI p) (nI hr) (f9_alibis_l60 (σf 0) (σA 0) (σA 1) (σf 2) (nI n) (nI p) (nI hr) k) (f7_open (σf 1) (σA 1) (nI (4 * n))) (σA 2) i := fun _ _ => rfl
  have eb : ∀ k i, f10_alibis_l49 (nI n) (nI p) (nI hr) (k + 1) μA (upd μf 8 (nI 0)) i = f10_alibis_b49 (nI n) (nI p) (nI hr) (f10_alibis_l49 (nI n) (nI p) (nI hr) k) μA (upd μf 8 (nI 0)) i := fun _ _ => rfl
  simp only [ea, eb]
  unfold f9_alibis_b60 f10_alibis_b49
  by_cases hjn : n ≤ j
  · left
    have : j = n := by omega
    subst this
    rw [if_pos (show nI j ≤ nI j by rw [leI (by omega) (by omega)]; omega), if_pos (show nI j ≤ nI j by rw [leI (by omega) (by omega)]; omega)]
    exact inner hall
  have hjn' : ¬ nI n ≤ nI j := by rw [leI (by omega) (by omega)]; exact hjn
  rw [if_neg hjn', if_neg hjn']
  have y0 : f7_byteAt (f7_open (σf 1) (σA 1) (nI (4 * n))) (σA 1) (4 * nI j) = nI (b (4 * j)) := by
    rw [show (4 : Int32) * nI j = nI (4 * j) from mulI 4 j]; exact byteAt_c open_2 hn' hb1 (by omega)
  have y2 : f7_byteAt (f7_open (σf 1) (σA 1) (nI (4 * n))) (σA 1) (4 * nI j + 2) = nI (b (4 * j + 2)) := by
    rw [show (4 : Int32) * nI j = nI (4 * j) from mulI 4 j, show nI (4 * j) + 2 = nI (4 * j + 2) from addI _ _]; exact byteAt_c open_2 hn' hb1 (by omega)
  have x0 : f10_octet (upd μf 8 (nI 0)) μA (4 * nI j) = some (nI (b (4 * j))) := by
    rw [show (4 : Int32) * nI j = nI (4 * j) from mulI 4 j]; exact octet_c hn' hb2 (by omega)
  have x2 : f10_octet (upd μf 8 (nI 0)) μA (4 * nI j + 2) = some (nI (b (4 * j + 2))) := by
    rw [show (4 : Int32) * nI j = nI (4 * j) from mulI 4 j, show nI (4 * j) + 2 = nI (4 * j + 2) from addI _ _]; exact octet_c hn' hb2 (by omega)
  rw [y0, y2, x0, Option.bind_some, x2]
  have g0 := t4 (4 * j); have g2 := t4 (4 * j + 2)
  rcases told_c b1 b2 b3' (nI (b (4 * j))) (AB := σA 2) (A := μA) with ⟨h1, h2⟩ | ⟨c, hc, ec, hTc, w1, w2⟩
  · left
    rw [if_pos h1, if_pos h2]
    exact ⟨_, _, rfl, rfl, rfl, INVz⟩
  rw [w1, if_neg n10, w2, if_neg n10, Option.bind_some]
  rcases told_c b1 b2 b3' (nI (b (4 * j + 2))) (AB := σA 2) (A := μA) with ⟨h1, h2⟩ | ⟨c', hc', ec', hTc', w1', w2'⟩
  · left
    rw [if_pos h1, if_pos h2]
    exact ⟨_, _, rfl, rfl, rfl, INVz⟩
  right
  rw [w1', if_neg n10, w2', if_neg n10, nI_s]
  rw [eqI (by omega) (by omega)] at ec ec'
  refine ⟨by omega, nI (j + 1), nI (j + 1), rfl, rfl, rfl, rfl, fun i hi => ?_⟩
  by_cases e : i = j
  · subst e; rw [ec, ec']; exact ⟨hTc, hTc'⟩
  · exact hall i (by omega)
