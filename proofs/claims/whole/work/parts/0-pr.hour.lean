theorem iminI {a b : Nat} (ha : a < 2147483648) (hb : b < 2147483648) : imin (nI a) (nI b) = nI (if b < a then b else a) := by
  show (if nI b < nI a then nI b else nI a) = _
  by_cases h : b < a
  · rw [if_pos h, if_pos (by rw [ltI hb ha]; exact h)]
  · rw [if_neg h, if_neg (by rw [ltI hb ha]; exact h)]
theorem min10I {a b : Nat} (ha : a < 2147483648) (hb : b < 2147483648) : f10_min (nI a) (nI b) = nI (if b ≤ a then b else a) := by
  unfold f10_min
  by_cases h : b ≤ a
  · rw [if_pos h, if_pos (by rw [leI hb ha]; exact h)]
  · rw [if_neg h, if_neg (by rw [leI hb ha]; exact h)]
theorem xorI (a b : Nat) : nI a ^^^ nI b = nI (a ^^^ b) := by
  show Int32.ofNat a ^^^ Int32.ofNat b = Int32.ofNat (a ^^^ b)
  apply Int32.toBitVec_inj.mp
  simp [BitVec.ofNat_xor]
theorem stands_lt (F : Nat) (w : Nat → Nat) (p : Nat) : stands F w p < 256 := mset_lt _ 8
theorem MEN.at10 {T F : Nat} {w : Nat → Nat} {fs g : Nat → Int32} {As B : Nat → Nat → Int32} (h : MEN T F w fs As (B 0)) {p : Nat} (hp : p < 16) : f10_menAt g B (nI p) = some (nI (stands F w p)) :=
  menAt10 (fun c hc => (h.2.2 c hc).1) (fun c hc => ⟨(h.2.2 c hc).2.2.2.1, (h.2.2 c hc).2.1⟩) hp
theorem MEN.at6 {T F : Nat} {w : Nat → Nat} {fs : Nat → Int32} {As : Nat → Nat → Int32} {An : Nat → Int32} (h : MEN T F w fs As An) {p : Nat} (hp : p < 16) : f6_standAt fs As (nI p) = some (nI (stands F w p)) :=
  standAt6 h.1 h.2.1 (fun c hc => ⟨(h.2.2 c hc).2.2.1, (h.2.2 c hc).2.1⟩) hp
/-! (1) they walk -/
theorem walk_c {T hr : Nat} {nx : Nat → Nat} {fB fs g : Nat → Int32} {AB As B : Nat → Nat → Int32} {fW : Nat → Nat → Int32} {AW : Nat → Nat → Nat → Int32} (hB : RB T nx (fB 0) (g 6) (AB 1) (B 3)) (hW : RW fW AW (B 4) (B 5)) {F : Nat} {w bd : Nat → Nat} (hM : MEN T F w fs As (B 0)) (hS : RSb T hr bd fs As (B 0)) : ∃ As' B' w', f5_walk fs As fB AB fW AW = some As' ∧ f10_hourGoes g B = f10_hourGoes_l21 NF B' g 0 ∧ MEN T F w' fs As' (B' 0) ∧ RSb T hr bd fs As' (B' 0) ∧ ∀ j, j ≠ 0 → B' j = B j := by
  obtain ⟨b1, b2, b3, b4, b5, b6, b7⟩ := hB
  unfold f5_walk f10_hourGoes
  refine loop_rel (fun n (s : (Nat → Nat → Int32) × Int32) => f5_walk_l2 fs fB AB fW AW n s.1 s.2) (fun n (s : (Nat → Nat → Int32) × Int32) => f10_hourGoes_l2 n s.1 g s.2) 8
    (fun j s t => ∃ As' B' w', s = (As', nI j) ∧ t = (B', nI j) ∧ MEN T F w' fs As' (B' 0) ∧ RSb T hr bd fs As' (B' 0) ∧ ∀ j, j ≠ 0 → B' j = B j)
    (fun a b => ∃ As' B' w', a = some As' ∧ b = f10_hourGoes_l21 NF B' g 0 ∧ MEN T F w' fs As' (B' 0) ∧ RSb T hr bd fs As' (B' 0) ∧ ∀ j, j ≠ 0 → B' j = B j) (by decide) ?_ (As, 0) (B, 0) ⟨As, B, w, rfl, rfl, hM, hS, fun _ _ => rfl⟩
  rintro n m j s t hj ⟨A1, B1, w1, rfl, rfl, hM1, hS1, hf⟩
  by_cases h8 : 8 ≤ j
  · left
    have : j = 8 := by omega
    subst this
    exact ⟨A1, B1, w1, rfl, rfl, hM1, hS1, hf⟩
  right
  refine ⟨by omega, ?_⟩
  obtain ⟨m1, m2, m3⟩ := hM1
  obtain ⟨a1, a2, a3, a4, a5⟩ := m3 j (by omega)
  obtain ⟨l, l1, l2, l3, l4⟩ := hW j (by omega)
  have hS1' := hS1
  obtain ⟨-, ⟨hr1, hr2, hr3, -⟩, -⟩ := hS1'
  have d4 : B1 4 = B 4 := hf 4 (by decide)
  have d5 : B1 5 = B 5 := hf 5 (by decide)
  have d3 : B1 3 = B 3 := hf 3 (by decide)
  have ea : f5_walk_l2 fs fB AB fW AW (n + 1) A1 (nI j) = f5_walk_b2 fs fB AB fW AW (f5_walk_l2 fs fB AB fW AW n) A1 (nI j) := rfl
  have eb : f10_hourGoes_l2 (m + 1) B1 g (nI j) = f10_hourGoes_b2 (f10_hourGoes_l2 m) B1 g (nI j) := rfl
  show ∃ (s' t' : (Nat → Nat → Int32) × Int32), f5_walk_l2 fs fB AB fW AW (n + 1) A1 (nI j) = f5_walk_l2 fs fB AB fW AW n s'.1 s'.2 ∧ f10_hourGoes_l2 (m + 1) B1 g (nI j) = f10_hourGoes_l2 m t'.1 g t'.2 ∧ _
  rw [ea, eb]
  generalize f5_walk_l2 fs fB AB fW AW n = Kn
  generalize f10_hourGoes_l2 m = Km
  unfold f5_walk_b2 f10_hourGoes_b2 f10_walks f0_stepAt
  simp (maxSteps := 3000000) (disch := omega) only [man9 m1 m2, man10 (fun c hc => (m3 c hc).1), litI, letv, eqI, leI, ltI, addI, mulI, subI, clI, addneg, at_nI, put_nI, nI_s, orI, shl1I, ifb0, ifb1, Option.bind_some, gx, ux, Nat.add_zero, Nat.zero_add, Nat.not_lt_zero, false_or, or_false, Nat.mul_zero, Nat.zero_mul, if_neg, l2, l3, hr2, hr3, d4, d5, d3]
  by_cases q : F.testBit j = true
  · simp (maxSteps := 3000000) (disch := omega) only [q, eq_self, not_true, if_false]
    by_cases z : l = 0
    · have t0 : f1_isTold fB AB (-nI 1) = nI 0 := rfl
      simp (maxSteps := 3000000) (disch := omega) only [z, Nat.le_refl, if_true, litI, letv, eqI, leI, ltI, addI, mulI, subI, clI, addneg, at_nI, put_nI, nI_s, orI, shl1I, ifb0, ifb1, Option.bind_some, gx, ux, Nat.add_zero, Nat.zero_add, Nat.not_lt_zero, false_or, or_false, Nat.mul_zero, Nat.zero_mul, t0]
      exact ⟨(_, _), (_, _), rfl, rfl, A1, B1, w1, rfl, rfl, ⟨m1, m2, m3⟩, hS1, hf⟩
    · have hlt : hr % l < l := Nat.mod_lt _ (by omega)
      obtain ⟨c1, c2⟩ := l4 (hr % l) hlt
      have fm : fJ9_floorMod_7cf53 (nI hr) (nI l) = some (nI (hr % l)) := by
        unfold fJ9_floorMod_7cf53
        have hx : hr ^^^ l < 2 ^ 31 := Nat.xor_lt_two_pow (by omega) (by omega)
        simp (maxSteps := 3000000) (disch := omega) only [litI, letv, eqI, leI, ltI, addI, mulI, subI, clI, addneg, at_nI, put_nI, nI_s, orI, shl1I, ifb0, ifb1, Option.bind_some, gx, ux, Nat.add_zero, Nat.zero_add, Nat.not_lt_zero, false_or, or_false, Nat.mul_zero, Nat.zero_mul, xorI, irmI, if_neg, if_pos]
      simp (maxSteps := 3000000) (disch := omega) only [Nat.le_zero, z, if_false, fm, litI, letv, eqI, leI, ltI, addI, mulI, subI, clI, addneg, at_nI, put_nI, nI_s, orI, shl1I, ifb0, ifb1, Option.bind_some, gx, ux, Nat.add_zero, Nat.zero_add, Nat.not_lt_zero, false_or, or_false, Nat.mul_zero, Nat.zero_mul, irmI, c1, if_neg]
      rcases c2 with c2 | ⟨v, v1, c2⟩
      · have t0 : f1_isTold fB AB (-nI 1) = nI 0 := rfl
        have c2' : B 5 (48 * j + hr % l) = -nI 1 := c1.symm.trans c2
        simp (maxSteps := 3000000) (disch := omega) only [c2', t0, if_true]
        exact ⟨(_, _), (_, _), rfl, rfl, A1, B1, w1, rfl, rfl, ⟨m1, m2, m3⟩, hS1, hf⟩
      · have c2' : B 5 (48 * j + hr % l) = nI v := c1.symm.trans c2
        have n1 := (b4 (w1 j) a2).2.2
        simp (maxSteps := 3000000) (disch := omega) only [c2', told9 b1 b2, told10 b1 b3, a3, a4, (b4 (w1 j) a2).1, (b4 (w1 j) a2).2.1, eq_neg, if_false, has9I, has10I, litI, letv, eqI, leI, ltI, addI, mulI, subI, clI, addneg, at_nI, put_nI, nI_s, orI, shl1I, ifb0, ifb1, Option.bind_some, gx, ux, Nat.add_zero, Nat.zero_add, Nat.not_lt_zero, false_or, or_false, Nat.mul_zero, Nat.zero_mul, if_neg]
        by_cases r : T.testBit v = true
        · simp (maxSteps := 3000000) (disch := omega) only [r, eq_self, not_true, if_false]
          by_cases u : (nx (w1 j)).testBit v = true
          · simp (maxSteps := 3000000) (disch := omega) only [u, eq_self, not_true, if_false]
            refine ⟨(_, _), (_, _), rfl, rfl, updA A1 3 (upd (A1 3) j (nI v)), updA B1 0 (upd (B1 0) (56 + j) (nI v)), fun d => if d = j then v else w1 d, rfl, rfl, ?_, ?_, fun i hi => (updA_n hi).trans (hf i hi)⟩
            · rw [updA_s]; exact MEN.walk ⟨m1, m2, m3⟩ (by omega) v1 r
            · rw [updA_s]; exact RSb.walk hS1 (by omega) _ _
          · simp (maxSteps := 3000000) (disch := omega) only [u, Bool.false_eq_true, not_false_eq_true, if_true]
            exact ⟨(_, _), (_, _), rfl, rfl, A1, B1, w1, rfl, rfl, ⟨m1, m2, m3⟩, hS1, hf⟩
        · simp (maxSteps := 3000000) (disch := omega) only [r, Bool.false_eq_true, not_false_eq_true, if_true]
          exact ⟨(_, _), (_, _), rfl, rfl, A1, B1, w1, rfl, rfl, ⟨m1, m2, m3⟩, hS1, hf⟩
  · simp (maxSteps := 3000000) (disch := omega) only [q, Bool.false_eq_true, not_false_eq_true, if_true, litI, letv, eqI, leI, ltI, addI, mulI, subI, clI, addneg, at_nI, put_nI, nI_s, orI, shl1I, ifb0, ifb1, Option.bind_some, gx, ux, Nat.add_zero, Nat.zero_add, Nat.not_lt_zero, false_or, or_false, Nat.mul_zero, Nat.zero_mul]
    exact ⟨(_, _), (_, _), rfl, rfl, A1, B1, w1, rfl, rfl, ⟨m1, m2, m3⟩, hS1, hf⟩
/-! (2) who is where, how long nobody was -/
theorem popc_zero {v n : Nat} (hv : v < 2 ^ n) : popc v n = 0 ↔ v = 0 := by
  constructor
  · intro h
    apply Nat.eq_of_testBit_eq
    intro i
    rw [Nat.zero_testBit]
    by_cases q : v.testBit i = true
    · by_cases hi : i < n
      · have := popc_pos q hi
        omega
      · rw [Nat.testBit_lt_two_pow (Nat.lt_of_lt_of_le hv (Nat.pow_le_pow_right (by decide) (by omega)))] at q
        exact absurd q (by decide)
    · exact Bool.eq_false_iff.mpr q
  · intro h
    subst h
    induction n with
    | zero => rfl
    | succ n ih =>
      unfold popc
      rw [ih (Nat.pow_pos (by decide)), Nat.zero_div]
/-- how many of the first n have a property -/
def cnt (g : Nat → Bool) : Nat → Nat
  | 0 => 0
  | n + 1 => cnt g n + if g n then 1 else 0
theorem popc_cnt (v n : Nat) : popc v n = cnt (fun i => v.testBit i) n := by
  induction n with
  | zero => rfl
  | succ n ih =>
    unfold popc cnt
    rw [ih]
    have e : v / 2 ^ n % 2 = if v.testBit n then 1 else 0 := by
      rw [Nat.testBit_eq_decide_div_mod_eq]
      have : v / 2 ^ n % 2 < 2 := Nat.mod_lt _ (by decide)
      by_cases h : v / 2 ^ n % 2 = 1
      · simp [h]
      · simp [h]; omega
    rw [e]
theorem cnt_congr {g h : Nat → Bool} {n : Nat} (e : ∀ i, i < n → g i = h i) : cnt g n = cnt h n := by
  induction n with
  | zero => rfl
  | succ n ih =>
    unfold cnt
    rw [ih (fun i hi => e i (by omega)), e n (by omega)]
theorem cnt_more (g : Nat → Bool) (n m : Nat) : cnt (fun i => decide (i < n) && g i) (n + m) = cnt g n := by
  induction m with
  | zero => exact cnt_congr (fun i hi => by simp [show i < n from hi])
  | succ m ih =>
    show cnt _ (n + m) + (if (decide (n + m < n) && g (n + m)) then 1 else 0) = _
    rw [ih]
    have : ¬ n + m < n := by omega
    simp [this]
theorem popc_stands (F : Nat) (w : Nat → Nat) (p : Nat) : popc (stands F w p) 16 = cnt (fun c => F.testBit c && w c == p) 8 := by
  rw [popc_cnt]
  unfold stands
  rw [cnt_congr (fun i _ => mset_bit _ 8 i)]
  exact cnt_more _ 8 8
/-- the crowds -/
def CR (F : Nat) (w : Nat → Nat) (X : Nat → Int32) : Prop := ∀ p, p < 16 → X p = nI (popc (stands F w p) 16)
theorem crowd_c {T F : Nat} {w : Nat → Nat} {f0 fs fB : Nat → Int32} {A0 As AB : Nat → Nat → Int32} {An : Nat → Int32} (hM : MEN T F w fs As An) : ∃ A0', f5_lookAround f0 A0 fs As fB AB = f5_lookAround_l78 f0 fs fB AB NF A0' As 0 ∧ CR F w (A0' 0) ∧ ∀ j, j ≠ 0 → A0' j = A0 j := by
  obtain ⟨m1, m2, m3⟩ := hM
  have second : ∀ A1 : Nat → Nat → Int32, (∀ p, p < 16 → A1 0 p = 0) → ∃ A0', f5_lookAround_l26 f0 fs fB AB NF A1 As 0 = f5_lookAround_l78 f0 fs fB AB NF A0' As 0 ∧ CR F w (A0' 0) ∧ ∀ j, j ≠ 0 → A0' j = A1 j := by
    intro A1 h1
    refine loop_one (fun n (s : (Nat → Nat → Int32) × Int32) => f5_lookAround_l26 f0 fs fB AB n s.1 As s.2) 8 (fun j s => ∃ A2 : Nat → Nat → Int32, s = (A2, nI j) ∧ (∀ p, p < 16 → A2 0 p = nI (cnt (fun c => F.testBit c && w c == p) j)) ∧ ∀ i, i ≠ 0 → A2 i = A1 i) (fun a => ∃ A0', a = f5_lookAround_l78 f0 fs fB AB NF A0' As 0 ∧ CR F w (A0' 0) ∧ ∀ j, j ≠ 0 → A0' j = A1 j) (by decide) ?_ (A1, 0) ⟨A1, rfl, h1, fun _ _ => rfl⟩
    rintro n j s hj ⟨A2, rfl, p1, p2⟩
    by_cases h8 : 8 ≤ j
    · left
      have : j = 8 := by omega
      subst this
      exact ⟨A2, rfl, fun p hp => by rw [popc_stands]; exact p1 p hp, p2⟩
    right
    refine ⟨by omega, ?_⟩
    obtain ⟨a1, a2, a3, a4, a5⟩ := m3 j (by omega)
    show ∃ (s' : (Nat → Nat → Int32) × Int32), f5_lookAround_b26 f0 fs fB AB (f5_lookAround_l26 f0 fs fB AB n) A2 As (nI j) = f5_lookAround_l26 f0 fs fB AB n s'.1 As s'.2 ∧ _
    generalize f5_lookAround_l26 f0 fs fB AB n = Kn
    unfold f5_lookAround_b26
    simp (maxSteps := 3000000) (disch := omega) only [man9 m1 m2, litI, letv, eqI, leI, ltI, addI, mulI, subI, clI, addneg, at_nI, put_nI, nI_s, orI, shl1I, ifb0, ifb1, Option.bind_some, gx, ux, Nat.add_zero, Nat.zero_add, Nat.not_lt_zero, false_or, or_false, Nat.mul_zero, Nat.zero_mul, if_neg, a3, p1]
    by_cases q : F.testBit j = true
    · simp (maxSteps := 3000000) (disch := omega) only [q, eq_self, not_true, if_false]
      refine ⟨(updA A2 0 (upd (A2 0) (w j) (nI (cnt (fun c => F.testBit c && w c == w j) j + 1))), nI (j + 1)), rfl, updA A2 0 (upd (A2 0) (w j) (nI (cnt (fun c => F.testBit c && w c == w j) j + 1))), rfl, fun p hp => ?_, fun i hi => (updA_n hi).trans (p2 i hi)⟩
      rw [updA_s]
      by_cases e : p = w j
      · subst e
        rw [upd_s]
        simp only [cnt, q, Bool.true_and, beq_self_eq_true, if_true]
      · have e' : (w j == p) = false := by simp [show ¬ w j = p from fun h => e h.symm]
        rw [upd_n e, p1 p hp]
        simp only [cnt, q, Bool.true_and, e', Bool.false_eq_true, if_false, Nat.add_zero]
    · simp (maxSteps := 3000000) (disch := omega) only [q, Bool.false_eq_true, not_false_eq_true, if_true]
      refine ⟨(_, _), rfl, _, rfl, fun p hp => ?_, p2⟩
      rw [p1 p hp]
      simp only [cnt, q, Bool.false_and, Bool.false_eq_true, if_false, Nat.add_zero]
  unfold f5_lookAround
  refine loop_one (fun n (s : (Nat → Nat → Int32) × Int32) => f5_lookAround_l2 f0 fs fB AB n s.1 As s.2) 16 (fun j s => ∃ A2 : Nat → Nat → Int32, s = (A2, nI j) ∧ (∀ p, p < j → A2 0 p = 0) ∧ ∀ i, i ≠ 0 → A2 i = A0 i) (fun a => ∃ A0', a = f5_lookAround_l78 f0 fs fB AB NF A0' As 0 ∧ CR F w (A0' 0) ∧ ∀ j, j ≠ 0 → A0' j = A0 j) (by decide) ?_ (A0, 0) ⟨A0, rfl, fun p hp => absurd hp (by omega), fun _ _ => rfl⟩
  rintro n j s hj ⟨A2, rfl, p1, p2⟩
  by_cases h8 : 16 ≤ j
  · left
    have : j = 16 := by omega
    subst this
    obtain ⟨A3, e1, e2, e3⟩ := second A2 p1
    exact ⟨A3, e1, e2, fun i hi => (e3 i hi).trans (p2 i hi)⟩
  right
  refine ⟨by omega, ?_⟩
  show ∃ (s' : (Nat → Nat → Int32) × Int32), f5_lookAround_b2 f0 fs fB AB (f5_lookAround_l2 f0 fs fB AB n) A2 As (nI j) = f5_lookAround_l2 f0 fs fB AB n s'.1 As s'.2 ∧ _
  generalize f5_lookAround_l2 f0 fs fB AB n = Kn
  unfold f5_lookAround_b2
  simp (maxSteps := 3000000) (disch := omega) only [litI, letv, eqI, leI, ltI, addI, mulI, subI, clI, addneg, at_nI, put_nI, nI_s, orI, shl1I, ifb0, ifb1, Option.bind_some, gx, ux, Nat.add_zero, Nat.zero_add, Nat.not_lt_zero, false_or, or_false, Nat.mul_zero, Nat.zero_mul, if_neg]
  refine ⟨(updA A2 0 (upd (A2 0) j (nI 0)), nI (j + 1)), rfl, updA A2 0 (upd (A2 0) j (nI 0)), rfl, fun p hp => ?_, fun i hi => (updA_n hi).trans (p2 i hi)⟩
  rw [updA_s]
  by_cases e : p = j
  · subst e; exact upd_s
  · rw [upd_n e]; exact p1 p (by omega)
theorem look_c {T hr F : Nat} {w bd nx : Nat → Nat} {f0 fs fB g : Nat → Int32} {A0 As AB B : Nat → Nat → Int32} (hB : RB T nx (fB 0) (g 6) (AB 1) (B 3)) (hM : MEN T F w fs As (B 0)) (hS : RSb T hr bd fs As (B 0)) : ∃ A0' As' B', f5_lookAround f0 A0 fs As fB AB = some (A0', As') ∧ f10_hourGoes_l21 NF B g 0 = f10_hourGoes_l80 NF B' g 0 ∧ CR F w (A0' 0) ∧ (∀ j, j ≠ 0 → A0' j = A0 j) ∧ MEN T F w fs As' (B' 0) ∧ RSb T hr bd fs As' (B' 0) ∧ ∀ j, j ≠ 0 → B' j = B j := by
  obtain ⟨b1, b2, b3, b4, b5, b6, b7⟩ := hB
  obtain ⟨A1, e1, e2, e3⟩ := crowd_c (f0 := f0) (fB := fB) (A0 := A0) (AB := AB) hM
  rw [e1]
  have key := loop_rel (fun n (s : (Nat → Nat → Int32) × Int32) => f5_lookAround_l78 f0 fs fB AB n A1 s.1 s.2) (fun n (s : (Nat → Nat → Int32) × Int32) => f10_hourGoes_l21 n s.1 g s.2) 16
    (fun j s t => ∃ As' B', s = (As', nI j) ∧ t = (B', nI j) ∧ MEN T F w fs As' (B' 0) ∧ RSb T hr bd fs As' (B' 0) ∧ ∀ j, j ≠ 0 → B' j = B j)
    (fun a b => ∃ As' B', a = some (A1, As') ∧ b = f10_hourGoes_l80 NF B' g 0 ∧ MEN T F w fs As' (B' 0) ∧ RSb T hr bd fs As' (B' 0) ∧ ∀ j, j ≠ 0 → B' j = B j) (by decide) (by
      rintro n m j s t hj ⟨A2, B1, rfl, rfl, hM1, hS1, hf⟩
      by_cases h8 : 16 ≤ j
      · left
        have : j = 16 := by omega
        subst this
        exact ⟨A2, B1, rfl, rfl, hM1, hS1, hf⟩
      right
      refine ⟨by omega, ?_⟩
      obtain ⟨-, -, v, v1, v2, v3⟩ := hS1.1 j (by omega)
      have c := e2 j (by omega)
      have c3 := stands_lt F w j
      have c4 : popc (stands F w j) 16 = 0 ↔ stands F w j = 0 := popc_zero (by omega)
      have c5 := popc_le (stands F w j) 16
      show ∃ (s' t' : (Nat → Nat → Int32) × Int32), f5_lookAround_b78 f0 fs fB AB (f5_lookAround_l78 f0 fs fB AB n) A1 A2 (nI j) = f5_lookAround_l78 f0 fs fB AB n A1 s'.1 s'.2 ∧ f10_hourGoes_b21 (f10_hourGoes_l21 m) B1 g (nI j) = f10_hourGoes_l21 m t'.1 g t'.2 ∧ _
      generalize f5_lookAround_l78 f0 fs fB AB n = Kn
      generalize f10_hourGoes_l21 m = Km
      unfold f5_lookAround_b78 f10_hourGoes_b21
      simp (maxSteps := 3000000) (disch := omega) only [told9 b1 b2, told10 b1 b3, litI, letv, eqI, leI, ltI, addI, mulI, subI, clI, addneg, at_nI, put_nI, nI_s, orI, shl1I, ifb0, ifb1, Option.bind_some, gx, ux, Nat.add_zero, Nat.zero_add, Nat.not_lt_zero, false_or, or_false, Nat.mul_zero, Nat.zero_mul, if_neg, c, v2, v3, hM1.at10, iminI, min10I, Nat.le_zero]
      by_cases q : T.testBit j = true
      · simp (maxSteps := 3000000) (disch := omega) only [q, eq_self, not_true, if_false]
        by_cases z : stands F w j = 0
        · simp (maxSteps := 3000000) (disch := omega) only [z, c4.mpr z, if_true]
          have ev : (if v + 1 ≤ 99 then v + 1 else 99) = (if 99 < v + 1 then 99 else v + 1) := by
            by_cases u : v + 1 ≤ 99
            · rw [if_pos u, if_neg (by omega)]
            · rw [if_neg u, if_pos (by omega)]
          have el : (if 99 < v + 1 then 99 else v + 1) ≤ 99 := by
            split <;> omega
          refine ⟨((updA A2 2 (upd (A2 2) j (nI (if 99 < v + 1 then 99 else v + 1)))), nI (j + 1)), ((updA B1 0 (upd (B1 0) (32 + j) (nI (if v + 1 ≤ 99 then v + 1 else 99)))), nI (j + 1)), rfl, rfl, (updA A2 2 (upd (A2 2) j (nI (if 99 < v + 1 then 99 else v + 1)))), (updA B1 0 (upd (B1 0) (32 + j) (nI (if v + 1 ≤ 99 then v + 1 else 99)))), rfl, rfl, ?_, ?_, fun i hi => (updA_n hi).trans (hf i hi)⟩
          · rw [updA_s]
            exact hM1.congr rfl (updA_n (by decide)) (fun i h1 h2 => upd_n (by omega))
          · rw [updA_s, ev]
            exact RSb.since hS1 (by omega) el
        · simp (maxSteps := 3000000) (disch := omega) only [z, fun h => z (c4.mp h), if_false, (show ¬ popc (stands F w j) 16 = 0 from fun h => z (c4.mp h))]
          refine ⟨((updA A2 2 (upd (A2 2) j (nI 0))), nI (j + 1)), ((updA B1 0 (upd (B1 0) (32 + j) (nI 0))), nI (j + 1)), rfl, rfl, (updA A2 2 (upd (A2 2) j (nI 0))), (updA B1 0 (upd (B1 0) (32 + j) (nI 0))), rfl, rfl, ?_, ?_, fun i hi => (updA_n hi).trans (hf i hi)⟩
          · rw [updA_s]
            exact hM1.congr rfl (updA_n (by decide)) (fun i h1 h2 => upd_n (by omega))
          · rw [updA_s]
            exact RSb.since hS1 (by omega) (by omega)
      · simp (maxSteps := 3000000) (disch := omega) only [q, Bool.false_eq_true, not_false_eq_true, if_true]
        exact ⟨(_, _), (_, _), rfl, rfl, A2, B1, rfl, rfl, hM1, hS1, hf⟩) (As, 0) (B, 0) ⟨As, B, rfl, rfl, hM, hS, fun _ _ => rfl⟩
  obtain ⟨As', B', k1, k2, k3, k4, k5⟩ := key
  exact ⟨A1, As', B', k1, k2, e2, e3, k3, k4, k5⟩
