theorem popc_pos {v c n : Nat} (h : v.testBit c = true) (hc : c < n) : 0 < popc v n := by
  induction n with
  | zero => omega
  | succ n ih =>
    unfold popc
    by_cases e : c = n
    · subst e
      rw [Nat.testBit_eq_decide_div_mod_eq, decide_eq_true_eq] at h
      omega
    · have := ih (by omega)
      omega
theorem ok_share : OK_share INV := by
  rintro σf σA fW AW μf μA x1 x2 hI
  have hI0 := hI
  obtain ⟨T, nx, -, -, hT, -, -, -, -⟩ := hI
  obtain ⟨sz, b, t1, t2, t3, t4, t5⟩ := hT.bytes
  unfold f9_share f10_share
  rw [in_eq]
  rcases within_c x1 (A := 1) (B := 12) (a := 1) (b := 12) rfl rfl (by decide) (by decide) with ⟨h, _⟩ | ⟨h, n, hn0, hn, rfl⟩
  · exact ⟨(-1, σf 1), (-1, μf), by rw [if_pos h], by rw [if_pos h], rfl, by rw [cset_id]; exact hI0⟩
  rcases within_c x2 (A := 0) (B := 7) (a := 0) (b := 7) rfl rfl (by decide) (by decide) with ⟨h2, _⟩ | ⟨h2, c, _, hc, rfl⟩
  · exact ⟨(-1, σf 1), (-1, μf), by rw [h, if_neg n10, if_pos h2], by rw [h, if_neg n10, if_pos h2], rfl, by rw [cset_id]; exact hI0⟩
  rw [h, if_neg n10, if_neg n10, h2, if_neg n10, if_neg n10, show (2 : Int32) * nI n = nI (2 * n) from mulI 2 n, holds_c t2 t1 (by omega), t3]
  by_cases hm : 2 * n ≤ sz
  · have hb1 : ∀ i, i < 2 * n → σA 1 0 i = nI (b i) := fun i hi => (t5 i (by omega)).1
    have hb2 : ∀ i, i < 2 * n → μA 7 i &&& 255 = nI (b i) := fun i hi => (t5 i (by omega)).2
    have hn' : 2 * n ≤ 260 := by omega
    simp (disch := omega) only [if_pos hm, litI, letv, eqI, leI, ltI, addI, mulI, subI, clI, at_nI, put_nI, nI_s, orI, shl1I, ifb0, ifb1, Option.bind_some, gx, ux, Nat.add_zero, Nat.zero_add, Nat.not_lt_zero, false_or, or_false, Nat.mul_zero, Nat.zero_mul, if_neg, if_true]
    obtain ⟨r, r', e1, e2, e3, e4, e5⟩ := loop_rel (fun k (s : Int32 × Int32) => f9_share_l50 (σf 0) (σA 0) (σA 1) (nI n) (nI c) k (f7_open (σf 1) (σA 1) (nI (2 * n))) s.1 s.2) (fun k (s : Int32 × Int32) => f10_share_l42 μA (nI n) (nI c) k (upd μf 8 (nI 0)) s.1 s.2) n
      (fun j s t => ∃ x, s = (x, nI j) ∧ t = (x, nI j)) (fun a b => ∃ r r', a = some r ∧ b = some r' ∧ r.1 = r'.1 ∧ r.2 = f7_open (σf 1) (σA 1) (nI (2 * n)) ∧ r'.2 = upd μf 8 (nI 0)) (by omega) (by
        rintro k m j s t hj ⟨x, rfl, rfl⟩
        simp (disch := omega) only [f9_share_l50, f9_share_b50, f10_share_l42, f10_share_b42, litI, letv, eqI, leI, ltI, addI, mulI, subI, clI, at_nI, put_nI, nI_s, orI, shl1I, ifb0, ifb1, Option.bind_some, gx, ux, Nat.add_zero, Nat.zero_add, Nat.not_lt_zero, false_or, or_false, Nat.mul_zero, Nat.zero_mul]
        by_cases hjn : n ≤ j
        · left
          simp (disch := omega) only [if_pos hjn]
          exact ⟨_, _, rfl, rfl, rfl, rfl, rfl⟩
        right
        have g1 := t4 (2 * j)
        have g2 := t4 (2 * j + 1)
        have p1 : 1 ≤ 2 ^ c := Nat.one_le_two_pow
        have a1 : b (2 * j + 1) &&& (2 ^ c - 1) ≤ b (2 * j + 1) := Nat.and_le_left
        have q1 := popc_le (b (2 * j + 1)) 16
        have q2 := popc_le (b (2 * j + 1) &&& (2 ^ c - 1)) 16
        have m1 := Nat.mod_le (b (2 * j)) (popc (b (2 * j + 1)) 16)
        simp (disch := omega) only [if_neg hjn, octet_c hn' hb2, byteAt_c open_2 hn' hb1, litI, letv, eqI, leI, ltI, addI, mulI, subI, clI, at_nI, put_nI, nI_s, orI, shl1I, ifb0, ifb1, Option.bind_some, gx, ux, Nat.add_zero, Nat.zero_add, Nat.not_lt_zero, false_or, or_false, Nat.mul_zero, Nat.zero_mul, bc_256, has9I, has10I, bits10, andI, Nat.le_zero]
        by_cases u : (b (2 * j + 1)).testBit c = true
        · have q3 := popc_pos (n := 16) u (by omega)
          simp (disch := omega) only [u, eq_self, not_true, if_false, if_neg, divI, irmI, litI, letv, eqI, leI, ltI, addI, mulI, subI, clI, at_nI, put_nI, nI_s, orI, shl1I, ifb0, ifb1, Option.bind_some, gx, ux, Nat.add_zero, Nat.zero_add, Nat.not_lt_zero, false_or, or_false, Nat.mul_zero, Nat.zero_mul]
          by_cases w : b (2 * j) % popc (b (2 * j + 1)) 16 ≤ popc (b (2 * j + 1) &&& (2 ^ c - 1)) 16
          · simp (disch := omega) only [w, if_true]
            exact ⟨by omega, (_, _), (_, _), rfl, rfl, _, rfl, by rw [Int32.add_assoc, addI]; rfl⟩
          · simp (disch := omega) only [w, if_false]
            exact ⟨by omega, (_, _), (_, _), rfl, rfl, _, rfl, by rw [Int32.add_assoc, addI]; rfl⟩
        · simp (disch := omega) only [u, Bool.false_eq_true, not_false_eq_true, if_true, ite_self]
          exact ⟨by omega, (_, _), (_, _), rfl, rfl, _, rfl, rfl⟩) (_, _) (_, _) ⟨nI 0, rfl, rfl⟩
    refine ⟨r, r', e1, e2, e3, ?_⟩
    rw [e4, e5]
    exact inv_tape0 hI0 rfl rfl
  · simp (disch := omega) only [if_neg hm, litI, letv, eqI, leI, ltI, addI, mulI, subI, clI, at_nI, put_nI, nI_s, orI, shl1I, ifb0, ifb1, Option.bind_some, gx, ux, Nat.add_zero, Nat.zero_add, Nat.not_lt_zero, false_or, or_false, Nat.mul_zero, Nat.zero_mul, if_true]
    exact ⟨_, _, rfl, rfl, rfl, by rw [cset_id]; exact hI0⟩
/-! odds -/
theorem gcd_c {a b : Nat} (ha : a < 2147483648) (hb : b < 2147483648) : f10_gcd (nI a) (nI b) = some (nI (Nat.gcd a b)) := by
  unfold f10_gcd
  refine loop_one (fun n (s : Int32 × Int32) => f10_gcd_l4 (nI a) (nI b) n s.1 s.2) b (fun j s => ∃ x y, s = (nI x, nI y) ∧ x < 2147483648 ∧ y + j ≤ b ∧ Nat.gcd x y = Nat.gcd a b) (fun r => r = some (nI (Nat.gcd a b))) (by omega) ?_ (_, _) ⟨a, b, rfl, ha, Nat.le_refl _, rfl⟩
  rintro n j s hj ⟨x, y, rfl, hx, hy, hg⟩
  simp (disch := omega) only [f10_gcd_l4, f10_gcd_b4, litI, letv, eqI, leI, ltI, addI, mulI, subI, clI, at_nI, put_nI, nI_s, orI, shl1I, ifb0, ifb1, Option.bind_some, gx, ux, Nat.add_zero, Nat.zero_add, Nat.not_lt_zero, false_or, or_false, Nat.mul_zero, Nat.zero_mul]
  by_cases h : y = 0
  · left
    simp (disch := omega) only [h, if_true]
    rw [← hg, h, Nat.gcd_zero_right]
  · right
    have hlt : x % y < y := Nat.mod_lt _ (by omega)
    simp (disch := omega) only [h, if_false, irmI]
    refine ⟨by omega, (_, _), rfl, y, x % y, rfl, by omega, by omega, ?_⟩
    rw [← hg, Nat.gcd_comm x y, Nat.gcd_rec y x, Nat.gcd_comm]
theorem divisor_c {a b : Nat} (hab : a ≤ b) (h0 : 0 < b) (hb : b < 1073741824) : f9_commonDivisor (nI a) (nI b) = some (nI (Nat.gcd a b)) := by
  unfold f9_commonDivisor
  have hg0 : 0 < Nat.gcd a b := Nat.gcd_pos_of_pos_right _ h0
  have fin : ∀ x, x = Nat.gcd a b → x < 2147483648 → imax (nI x) (nI 1) = nI (Nat.gcd a b) := fun x e hx => by
    show (if nI x < nI 1 then nI 1 else nI x) = _
    rw [if_neg (by rw [ltI hx (by omega)]; omega), e]
  refine loop_one (fun n (s : Int32 × Int32 × Int32) => f9_commonDivisor_l7 (nI a) (nI b) n s.1 s.2.1 s.2.2) 100 (fun j s => ∃ x y, s = (nI x, nI y, nI j) ∧ x < 2147483648 ∧ y < 2147483648 ∧ Nat.gcd x y = Nat.gcd a b ∧ ((j = 0 ∧ x = a ∧ y = b) ∨ (y < x ∧ 2 ^ j * (x * y) ≤ 2 ^ 61))) (fun r => r = some (nI (Nat.gcd a b))) (by omega) ?_ (_, _, _) ⟨a, b, rfl, by omega, by omega, rfl, Or.inl ⟨rfl, rfl, rfl⟩⟩
  rintro n j s hj ⟨x, y, rfl, hx, hy, hg, hc⟩
  simp (disch := omega) only [f9_commonDivisor_l7, f9_commonDivisor_b7, litI, letv, eqI, leI, ltI, addI, mulI, subI, clI, at_nI, put_nI, nI_s, orI, shl1I, ifb0, ifb1, Option.bind_some, gx, ux, Nat.add_zero, Nat.zero_add, Nat.not_lt_zero, false_or, or_false, Nat.mul_zero, Nat.zero_mul]
  by_cases h : y = 0
  · left
    have e : x = Nat.gcd a b := by rw [← hg, h, Nat.gcd_zero_right]
    simp (disch := omega) only [h, if_true, ite_self]
    rw [fin x e hx]
  · have hj' : ¬ 100 ≤ j := by
      intro h'
      have : j = 100 := by omega
      subst this
      rcases hc with ⟨h1, _⟩ | ⟨h1, h2⟩
      · omega
      · have h3 : 1 ≤ x * y := Nat.mul_pos (by omega) (by omega)
        have h4 : 2 ^ 100 * 1 ≤ 2 ^ 100 * (x * y) := Nat.mul_le_mul_left _ h3
        omega
    right
    have hlt : x % y < y := Nat.mod_lt _ (by omega)
    simp (disch := omega) only [h, hj', if_false, irmI]
    refine ⟨by omega, (_, _, _), rfl, y, x % y, rfl, by omega, by omega, ?_, Or.inr ⟨hlt, ?_⟩⟩
    · rw [← hg, Nat.gcd_comm x y, Nat.gcd_rec y x, Nat.gcd_comm]
    · rcases hc with ⟨h1, h2, h3⟩ | ⟨h1, h2⟩
      · subst h1 h2 h3
        have h5 : y * (x % y) ≤ 1073741824 * 1073741824 := Nat.mul_le_mul (by omega) (by omega)
        omega
      · have h6 : 2 * (x % y) ≤ x := by
          have h7 := Nat.div_add_mod x y
          have h8 : 1 ≤ x / y := (Nat.one_le_div_iff (by omega)).mpr (by omega)
          have h9 : y * 1 ≤ y * (x / y) := Nat.mul_le_mul_left _ h8
          omega
        have h7 : y * (2 * (x % y)) ≤ y * x := Nat.mul_le_mul_left _ h6
        have h8 : 2 ^ (j + 1) * (y * (x % y)) = 2 ^ j * (y * (2 * (x % y))) := by
          rw [Nat.pow_succ, Nat.mul_assoc, ← Nat.mul_assoc 2 y, Nat.mul_comm 2 y, Nat.mul_assoc y 2]
        rw [h8]
        refine Nat.le_trans (Nat.mul_le_mul_left _ h7) ?_
        rw [Nat.mul_comm y x]; exact h2
theorem pow10 : ∀ j, j < 10 → 1 ≤ 10 ^ j ∧ 10 ^ j ≤ 1000000000 := by decide
theorem ok_odds : OK_odds INV := by
  rintro σf σA fW AW μf μA x1 x2 hI
  have hI0 := hI
  obtain ⟨T, nx, -, -, hT, -, -, -, -⟩ := hI
  obtain ⟨sz, b, t1, t2, t3, t4, t5⟩ := hT.bytes
  unfold f9_odds f10_odds
  rw [in_eq]
  rcases within_c x1 (A := 1) (B := 9) (a := 1) (b := 9) rfl rfl (by decide) (by decide) with ⟨h, _⟩ | ⟨h, n, hn0, hn, rfl⟩
  · exact ⟨(-1, σf 1), (-1, μf), by rw [if_pos h], by rw [if_pos h], rfl, by rw [cset_id]; exact hI0⟩
  rcases within_c x2 (A := 0) (B := 5) (a := 0) (b := 5) rfl rfl (by decide) (by decide) with ⟨h2, _⟩ | ⟨h2, w, _, hw, rfl⟩
  · exact ⟨(-1, σf 1), (-1, μf), by rw [h, if_neg n10, if_pos h2], by rw [h, if_neg n10, if_pos h2], rfl, by rw [cset_id]; exact hI0⟩
  rw [h, if_neg n10, if_neg n10, h2, if_neg n10, if_neg n10, holds_c t2 t1 (by omega), t3]
  by_cases hm : n ≤ sz
  · have hb1 : ∀ i, i < n → σA 1 0 i = nI (b i) := fun i hi => (t5 i (by omega)).1
    have hb2 : ∀ i, i < n → μA 7 i &&& 255 = nI (b i) := fun i hi => (t5 i (by omega)).2
    have hn' : n ≤ 260 := by omega
    simp (disch := omega) only [if_pos hm, litI, letv, eqI, leI, ltI, addI, mulI, subI, clI, at_nI, put_nI, nI_s, orI, shl1I, ifb0, ifb1, Option.bind_some, gx, ux, Nat.add_zero, Nat.zero_add, Nat.not_lt_zero, false_or, or_false, Nat.mul_zero, Nat.zero_mul, if_neg, if_true]
    have fin : ∀ x y : Nat, x ≤ y → 0 < y → y ≤ 1000000000 → f9_odds_b131 (σf 0) (σA 0) (σA 1) (nI n) (nI w) (f7_open (σf 1) (σA 1) (nI n)) (nI y) (nI x) = some (nI (if w % 2 = 0 then x / Nat.gcd x y else y / Nat.gcd x y), f7_open (σf 1) (σA 1) (nI n)) ∧ f10_odds_b125 μA (nI n) (nI w) (upd μf 8 (nI 0)) (nI y) (nI x) = some (nI (if w % 2 = 0 then x / Nat.gcd x y else y / Nat.gcd x y), upd μf 8 (nI 0)) := by
      intro x y hxy h0 hy
      have hg0 : 0 < Nat.gcd x y := Nat.gcd_pos_of_pos_right _ h0
      have hg1 : Nat.gcd x y ≤ y := Nat.gcd_le_right _ h0
      unfold f9_odds_b131 f10_odds_b125
      rw [divisor_c hxy h0 (by omega), gcd_c (by omega) (by omega), Nat.gcd_comm y x]
      simp (disch := omega) only [litI, letv, eqI, leI, ltI, addI, mulI, subI, clI, at_nI, put_nI, nI_s, orI, shl1I, ifb0, ifb1, Option.bind_some, gx, ux, Nat.add_zero, Nat.zero_add, Nat.not_lt_zero, false_or, or_false, Nat.mul_zero, Nat.zero_mul, irmI, divI]
      by_cases q : w % 2 = 0
      · simp (disch := omega) only [q, if_true, if_neg]
        exact ⟨trivial, trivial⟩
      · simp (disch := omega) only [q, if_false, if_neg]
        exact ⟨trivial, trivial⟩
    obtain ⟨r, r', e1, e2, e3, e4, e5⟩ := loop_rel (fun k (s : Int32 × Int32 × Int32 × Int32) => f9_odds_l51 (σf 0) (σA 0) (σA 1) (nI n) (nI w) k (f7_open (σf 1) (σA 1) (nI n)) s.1 s.2.1 s.2.2.1 s.2.2.2) (fun k (s : Int32 × Int32 × Int32 × Int32) => f10_odds_l45 μA (nI n) (nI w) k (upd μf 8 (nI 0)) s.1 s.2.1 s.2.2.1 s.2.2.2) n
      (fun j s t => ∃ a c, a ≤ 10 ^ j ∧ c ≤ 10 ^ j ∧ s = (nI a, nI c, nI (10 ^ j), nI j) ∧ t = (nI (10 ^ j), nI a, nI c, nI j)) (fun a b => ∃ r r', a = some r ∧ b = some r' ∧ r.1 = r'.1 ∧ r.2 = f7_open (σf 1) (σA 1) (nI n) ∧ r'.2 = upd μf 8 (nI 0)) (by omega) (by
        rintro k m j s t hj ⟨a, c, ha, hc, rfl, rfl⟩
        obtain ⟨p1, p2⟩ := pow10 j (by omega)
        have g1 := t4 j
        simp (disch := omega) only [f9_odds_l51, f9_odds_b51, f10_odds_l45, f10_odds_b45, litI, letv, eqI, leI, ltI, addI, mulI, subI, clI, at_nI, put_nI, nI_s, orI, shl1I, ifb0, ifb1, Option.bind_some, gx, ux, Nat.add_zero, Nat.zero_add, Nat.not_lt_zero, false_or, or_false, Nat.mul_zero, Nat.zero_mul]
        by_cases hjn : n ≤ j
        · left
          simp (disch := omega) only [if_pos hjn]
          by_cases u : 4 ≤ w
          · simp (disch := omega) only [u, if_true, if_pos]
            obtain ⟨f1, f2⟩ := fin (10 ^ j - c) (10 ^ j) (by omega) (by omega) p2
            exact ⟨_, _, f1, f2, rfl, rfl, rfl⟩
          by_cases v : 2 ≤ w
          · simp (disch := omega) only [u, v, if_true, if_false]
            obtain ⟨f1, f2⟩ := fin c (10 ^ j) (by omega) (by omega) p2
            exact ⟨_, _, f1, f2, rfl, rfl, rfl⟩
          · simp (disch := omega) only [u, v, if_true, if_false]
            obtain ⟨f1, f2⟩ := fin a (10 ^ j) (by omega) (by omega) p2
            exact ⟨_, _, f1, f2, rfl, rfl, rfl⟩
        simp (disch := omega) only [if_neg hjn, octet_c hn' hb2, byteAt_c open_2 hn' hb1, litI, letv, eqI, leI, ltI, addI, mulI, subI, clI, at_nI, put_nI, nI_s, orI, shl1I, ifb0, ifb1, Option.bind_some, gx, ux, Nat.add_zero, Nat.zero_add, Nat.not_lt_zero, false_or, or_false, Nat.mul_zero, Nat.zero_mul]
        by_cases u : b j ≤ 10
        · right
          simp (disch := omega) only [if_pos u, litI, letv, eqI, leI, ltI, addI, mulI, subI, clI, at_nI, put_nI, nI_s, orI, shl1I, ifb0, ifb1, Option.bind_some, gx, ux, Nat.add_zero, Nat.zero_add, Nat.not_lt_zero, false_or, or_false, Nat.mul_zero, Nat.zero_mul]
          refine ⟨by omega, (_, _, _, _), (_, _, _, _), rfl, rfl, a * b j, c * (10 - b j), ?_, ?_, rfl, rfl⟩
          · rw [Nat.pow_succ]; exact Nat.mul_le_mul ha u
          · rw [Nat.pow_succ]; exact Nat.mul_le_mul hc (by omega)
        · left
          simp (disch := omega) only [if_neg u, litI, letv, eqI, leI, ltI, addI, mulI, subI, clI, at_nI, put_nI, nI_s, orI, shl1I, ifb0, ifb1, Option.bind_some, gx, ux, Nat.add_zero, Nat.zero_add, Nat.not_lt_zero, false_or, or_false, Nat.mul_zero, Nat.zero_mul]
          exact ⟨_, _, rfl, rfl, rfl, rfl, rfl⟩) (_, _, _, _) (_, _, _, _) ⟨1, 1, by decide, by decide, rfl, rfl⟩
    refine ⟨r, r', e1, e2, e3, ?_⟩
    rw [e4, e5]
    exact inv_tape0 hI0 rfl rfl
  · simp (disch := omega) only [if_neg hm, litI, letv, eqI, leI, ltI, addI, mulI, subI, clI, at_nI, put_nI, nI_s, orI, shl1I, ifb0, ifb1, Option.bind_some, gx, ux, Nat.add_zero, Nat.zero_add, Nat.not_lt_zero, false_or, or_false, Nat.mul_zero, Nat.zero_mul, if_true]
    exact ⟨_, _, rfl, rfl, rfl, by rw [cset_id]; exact hI0⟩
