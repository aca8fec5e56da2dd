/-! THE BENCH -/
def JJ (ρ : Nat → Nat → Nat) (m a b : Nat) : Nat := cnt (fun j => decide (ρ j a < ρ j b)) m
/-- ranks of the judges below j (all), of judge j those of N -/
def RNK (n j N i : Nat) (ρ : Nat → Nat → Nat) (X Y : Nat → Int32) : Prop :=
  (∀ j' c, j' < j → c < n → X (6 * j' + c) = nI (ρ j' c) ∧ Y (6 * j' + c) = nI (ρ j' c) ∧ ρ j' c < n) ∧ (∀ j' c c', j' < j → c < n → c' < n → ρ j' c = ρ j' c' → c = c') ∧
  (∀ c, c < n → N.testBit c = true → X (6 * j + c) = nI (ρ j c) ∧ Y (6 * j + c) = nI (ρ j c) ∧ ρ j c < i) ∧ (∀ c c', c < n → c' < n → N.testBit c = true → N.testBit c' = true → ρ j c = ρ j c' → c = c')
theorem or_bit' (N c i : Nat) : (N ||| 2 ^ c).testBit i = (N.testBit i || i == c) := by
  rw [Nat.testBit_or, Nat.testBit_two_pow]
  by_cases e : c = i
  · subst e; simp
  · simp [e, show ¬ i = c from fun h => e h.symm]
theorem RNK.set {n j N i c : Nat} {ρ : Nat → Nat → Nat} {X Y : Nat → Int32} (h : RNK n j N i ρ X Y) (hn : n ≤ 6) (hc : c < n) (hb : N.testBit c = false) : RNK n j (N ||| 2 ^ c) (i + 1) (fun j' c' => if j' = j ∧ c' = c then i else ρ j' c') (upd X (6 * j + c) (nI i)) (upd Y (6 * j + c) (nI i)) := by
  obtain ⟨h1, h2, h3, h4⟩ := h
  refine ⟨fun j' c' a b => ?_, fun j' x y a b d => ?_, fun c' a b => ?_, fun x y a b d e => ?_⟩
  · rw [upd_n (by omega), upd_n (by omega)]
    show X _ = nI (if j' = j ∧ c' = c then i else ρ j' c') ∧ Y _ = nI (if j' = j ∧ c' = c then i else ρ j' c') ∧ (if j' = j ∧ c' = c then i else ρ j' c') < n
    rw [if_neg (by omega)]
    exact h1 j' c' a b
  · show (if j' = j ∧ x = c then i else ρ j' x) = (if j' = j ∧ y = c then i else ρ j' y) → x = y
    rw [if_neg (by omega), if_neg (by omega)]
    exact h2 j' x y a b d
  · show upd X (6 * j + c) (nI i) (6 * j + c') = nI (if j = j ∧ c' = c then i else ρ j c') ∧ upd Y (6 * j + c) (nI i) (6 * j + c') = nI (if j = j ∧ c' = c then i else ρ j c') ∧ (if j = j ∧ c' = c then i else ρ j c') < i + 1
    by_cases e : c' = c
    · subst e
      rw [upd_s, upd_s, if_pos ⟨rfl, rfl⟩]
      exact ⟨rfl, rfl, by omega⟩
    · rw [or_bit', beq_eq_false_iff_ne.mpr e, Bool.or_false] at b
      rw [upd_n (by omega), upd_n (by omega), if_neg (fun h => e h.2)]
      obtain ⟨g1, g2, g3⟩ := h3 c' a b
      exact ⟨g1, g2, by omega⟩
  · show (if j = j ∧ x = c then i else ρ j x) = (if j = j ∧ y = c then i else ρ j y) → x = y
    rw [or_bit', Bool.or_eq_true, beq_iff_eq] at d e
    by_cases ex : x = c
    · by_cases ey : y = c
      · intro _; omega
      · rw [if_pos ⟨rfl, ex⟩, if_neg (fun h => ey h.2)]
        have := (h3 y b (by rcases e with e | e; exact e; exact absurd e ey)).2.2
        intro h; omega
    · by_cases ey : y = c
      · rw [if_neg (fun h => ex h.2), if_pos ⟨rfl, ey⟩]
        have := (h3 x a (by rcases d with d | d; exact d; exact absurd d ex)).2.2
        intro h; omega
      · rw [if_neg (fun h => ex h.2), if_neg (fun h => ey h.2)]
        exact h4 x y a b (by rcases d with d | d; exact d; exact absurd d ex) (by rcases e with e | e; exact e; exact absurd e ey)
theorem RNK.next {n j N : Nat} {ρ : Nat → Nat → Nat} {X Y : Nat → Int32} (h : RNK n j N n ρ X Y) (hN : cnt (fun i => N.testBit i) n = n) : RNK n (j + 1) 0 0 ρ X Y := by
  obtain ⟨h1, h2, h3, h4⟩ := h
  have full : ∀ c, c < n → N.testBit c = true := fun c hc => by
    by_cases q : N.testBit c = true
    · exact q
    · have := cnt_full (g := fun i => N.testBit i) hc (Bool.eq_false_iff.mpr q)
      omega
  refine ⟨fun j' c a b => ?_, fun j' x y a b d => ?_, fun c a b => by rw [Nat.zero_testBit] at b; exact absurd b (by decide), fun x y a b d => by rw [Nat.zero_testBit] at d; exact absurd d (by decide)⟩
  · by_cases e : j' = j
    · subst e; exact h3 c b (full c b)
    · exact h1 j' c (by omega) b
  · by_cases e : j' = j
    · subst e; exact h4 x y b d (full x b) (full y d)
    · exact h2 j' x y (by omega) b d
theorem take_c {f0 fT g : Nat → Int32} {A AT B : Nat → Nat → Int32} {b : Nat → Nat} {n m j : Nat} {ρ : Nat → Nat → Nat} {K : (Nat → Nat → Int32) → Int32 → Option (Int32 × (Nat → Nat → Int32))} (hn0 : 1 ≤ n) (hn : n ≤ 6) (hm : m ≤ 9) (hj : j < m) (e2 : fT 2 = nI (n * m)) (hb : ∀ i, b i < 256) (hb1 : ∀ i, i < n * m → AT 0 i = nI (b i)) (hb2 : ∀ i, i < n * m → B 7 i &&& 255 = nI (b i)) (hR : RNK n j 0 0 ρ (A 9) (B 50)) :
    (∃ A' B', f9_takesRanking f0 A fT AT (nI n) (nI j) = some (0, A') ∧ f10_laysRanks_l13 g (nI n) (nI m) K NF B (nI j) 0 0 = some (0, B') ∧ ∀ k, k ≠ 50 → B' k = B k) ∨
    (∃ A' B' ρ', f9_takesRanking f0 A fT AT (nI n) (nI j) = some (1, A') ∧ f10_laysRanks_l13 g (nI n) (nI m) K NF B (nI j) 0 0 = K B' (nI (j + 1)) ∧ RNK n (j + 1) 0 0 ρ' (A' 9) (B' 50) ∧ ∀ k, k ≠ 50 → B' k = B k) := by
  have nm : n * m ≤ 54 := Nat.mul_le_mul hn hm
  unfold f9_takesRanking
  refine loop_rel (fun k (s : (Nat → Nat → Int32) × Int32 × Int32) => f9_takesRanking_l5 f0 fT AT (nI n) (nI j) k s.1 s.2.1 s.2.2) (fun k (s : (Nat → Nat → Int32) × Int32 × Int32) => f10_laysRanks_l13 g (nI n) (nI m) K k s.1 (nI j) s.2.1 s.2.2) n
    (fun i s t => ∃ A' B' N ρ', s = (A', nI N, nI i) ∧ t = (B', nI N, nI i) ∧ N < 2 ^ n ∧ cnt (fun c => N.testBit c) n = i ∧ RNK n j N i ρ' (A' 9) (B' 50) ∧ ∀ k, k ≠ 50 → B' k = B k)
    (fun P Q => (∃ A' B', P = some (0, A') ∧ Q = some (0, B') ∧ ∀ k, k ≠ 50 → B' k = B k) ∨ (∃ A' B' ρ', P = some (1, A') ∧ Q = K B' (nI (j + 1)) ∧ RNK n (j + 1) 0 0 ρ' (A' 9) (B' 50) ∧ ∀ k, k ≠ 50 → B' k = B k)) (by omega) ?_ (A, 0, 0) (B, 0, 0) ⟨A, B, 0, ρ, rfl, rfl, Nat.pow_pos (by decide), cnt_zero (fun i _ => Nat.zero_testBit i), hR, fun _ _ => rfl⟩
  rintro k k' i s t hi ⟨A1, B1, N, ρ1, rfl, rfl, hN, hcnt, hR1, hf⟩
  have ea : ∀ k A x i, f9_takesRanking_l5 f0 fT AT (nI n) (nI j) (k + 1) A x i = f9_takesRanking_b5 f0 fT AT (nI n) (nI j) (f9_takesRanking_l5 f0 fT AT (nI n) (nI j) k) A x i := fun _ _ _ _ => rfl
  have eb : ∀ k A x i, f10_laysRanks_l13 g (nI n) (nI m) K (k + 1) A (nI j) x i = f10_laysRanks_b13 g (nI n) (nI m) K (f10_laysRanks_l13 g (nI n) (nI m) K k) A (nI j) x i := fun _ _ _ _ => rfl
  simp only [ea, eb]
  unfold f9_takesRanking_b5 f10_laysRanks_b13
  by_cases hin : n ≤ i
  · have : i = n := by omega
    subst this
    left
    right
    rw [if_pos (show nI i ≤ nI i by rw [leI (by omega) (by omega)]; omega), if_pos (show nI i ≤ nI i by rw [leI (by omega) (by omega)]; omega), nI_s]
    exact ⟨A1, B1, ρ1, rfl, rfl, hR1.next hcnt, hf⟩
  have hin' : ¬ nI n ≤ nI i := by rw [leI (by omega) (by omega)]; exact hin
  rw [if_neg hin', if_neg hin']
  have hjn : j * n + n ≤ m * n := by
    have : (j + 1) * n ≤ m * n := Nat.mul_le_mul_right n hj
    rw [Nat.add_mul, Nat.one_mul] at this
    exact this
  have hmn : m * n = n * m := Nat.mul_comm m n
  have hnj : n * j = j * n := Nat.mul_comm n j
  have ix : j * n + i < n * m := by omega
  have y1 : f7_byteAt fT AT (nI j * nI n + nI i) = nI (b (j * n + i)) := by
    rw [mulI, addI]; exact byteAt_c e2 (by omega) hb1 ix
  have y2 : f10_octet g B1 (nI n * nI j + nI i) = some (nI (b (j * n + i))) := by
    rw [mulI, addI, hnj]
    exact octet_c (n := n * m) (by omega) (fun i hi => by rw [hf 7 (by decide)]; exact hb2 i hi) ix
  have hbb := hb (j * n + i)
  rw [y1, y2, Option.bind_some]
  generalize b (j * n + i) = c at hbb
  by_cases hc : n ≤ c
  · have hc' : nI n ≤ nI c := by rw [leI (by omega) (by omega)]; exact hc
    rw [if_pos hc', if_pos hc']
    exact Or.inl (Or.inl ⟨A1, B1, rfl, rfl, hf⟩)
  have hc' : ¬ nI n ≤ nI c := by rw [leI (by omega) (by omega)]; exact hc
  have p64 : 2 ^ n ≤ 2 ^ 6 := Nat.pow_le_pow_right (by decide) hn
  rw [if_neg hc', if_neg hc', has9 (by omega) (by omega), has10 (by omega) (by omega)]
  by_cases hbit : N.testBit c = true
  · rw [if_pos hbit, if_neg n10, if_neg n10]
    exact Or.inl (Or.inl ⟨A1, B1, rfl, rfl, hf⟩)
  rw [if_neg hbit, if_pos rfl, if_pos rfl]
  right
  have hbit' := Bool.eq_false_iff.mpr hbit
  have i1 : nI j * 6 + nI c = nI (6 * j + c) := by
    rw [show (6 : Int32) = nI 6 from rfl, mulI, addI, Nat.mul_comm j 6]
  have i2 : 6 * nI j + nI c = nI (6 * j + c) := by
    rw [show (6 : Int32) = nI 6 from rfl, mulI, addI]
  rw [i1, i2, if_neg (nI_in (show 6 * j + c < 54 by omega) (by decide))]
  simp only [letv]
  rw [put_nI (by omega) (by decide), ux_nI (by omega), shl1 (by omega), or_nI, nI_s]
  have hc2 : 2 ^ c < 2 ^ n := Nat.pow_lt_pow_right (by decide) (by omega)
  refine ⟨by omega, (updA A1 9 (upd (A1 9) (6 * j + c) (nI i)), nI (N ||| 2 ^ c), nI (i + 1)), (updA B1 50 (upd (B1 50) (6 * j + c) (nI i)), nI (N ||| 2 ^ c), nI (i + 1)), rfl, rfl, _, _, N ||| 2 ^ c, (fun j' c' => if j' = j ∧ c' = c then i else ρ1 j' c'), rfl, rfl, Nat.or_lt_two_pow hN hc2, ?_, ?_, fun k hk => (updA_n hk).trans (hf k hk)⟩
  · rw [cnt_set (g := fun i => N.testBit i) (q := c) (by omega) hbit' (by show (N ||| 2 ^ c).testBit c = true; rw [or_bit']; simp) (fun x _ hne => by show (N ||| 2 ^ c).testBit x = N.testBit x; rw [or_bit', beq_eq_false_iff_ne.mpr hne, Bool.or_false]), hcnt]
  · show RNK n j (N ||| 2 ^ c) (i + 1) _ (updA A1 9 (upd (A1 9) (6 * j + c) (nI i)) 9) (updA B1 50 (upd (B1 50) (6 * j + c) (nI i)) 50)
    rw [updA_s, updA_s]
    exact hR1.set hn (by omega) hbit'
theorem judges_c {f : Nat → Int32} {A : Nat → Nat → Int32} {n m a b : Nat} {ρ : Nat → Nat → Nat} {Y : Nat → Int32} (hn : n ≤ 6) (hm : m ≤ 9) (ha : a < n) (hb : b < n) (hR : RNK n m 0 0 ρ (A 9) Y) : f9_judgesFor f A (nI a) (nI b) (nI m) = some (nI (JJ ρ m a b)) := by
  unfold f9_judgesFor
  refine loop_one (fun k (s : Int32 × Int32) => f9_judgesFor_l6 f A (nI a) (nI b) (nI m) k s.1 s.2) m (fun j s => s = (nI (cnt (fun j => decide (ρ j a < ρ j b)) j), nI j)) (fun P => P = some (nI (JJ ρ m a b))) (by omega) ?_ (0, 0) rfl
  rintro k j s hj rfl
  have ea : ∀ k x i, f9_judgesFor_l6 f A (nI a) (nI b) (nI m) (k + 1) x i = f9_judgesFor_b6 f A (nI a) (nI b) (nI m) (f9_judgesFor_l6 f A (nI a) (nI b) (nI m) k) x i := fun _ _ _ => rfl
  simp only [ea]
  unfold f9_judgesFor_b6
  by_cases h : m ≤ j
  · have : j = m := by omega
    subst this
    left
    rw [if_pos (show nI j ≤ nI j by rw [leI (by omega) (by omega)]; omega)]
    rfl
  right
  obtain ⟨x1, -, x3⟩ := hR.1 j a (by omega) ha
  obtain ⟨y1, -, y3⟩ := hR.1 j b (by omega) hb
  have i1 : ∀ c, nI j * 6 + nI c = nI (6 * j + c) := fun c => by
    rw [show (6 : Int32) = nI 6 from rfl, mulI, addI, Nat.mul_comm j 6]
  rw [if_neg (show ¬ nI m ≤ nI j by rw [leI (by omega) (by omega)]; exact h), i1, i1, at_nI (by omega) (by decide), at_nI (by omega) (by decide), x1, y1, nI_s, nI_s]
  refine ⟨by omega, ?_⟩
  have ec : cnt (fun j => decide (ρ j a < ρ j b)) (j + 1) = cnt (fun j => decide (ρ j a < ρ j b)) j + if decide (ρ j a < ρ j b) then 1 else 0 := rfl
  by_cases q : ρ j b ≤ ρ j a
  · rw [if_pos (show nI (ρ j b) ≤ nI (ρ j a) by rw [leI (by omega) (by omega)]; exact q)]
    refine ⟨(_, _), rfl, ?_⟩
    rw [ec, decide_eq_false (by omega)]
    rfl
  · rw [if_neg (show ¬ nI (ρ j b) ≤ nI (ρ j a) by rw [leI (by omega) (by omega)]; exact q)]
    refine ⟨(_, _), rfl, ?_⟩
    rw [ec, decide_eq_true (by omega)]
    rfl
theorem toInt_p1 {x : Int32} (h1 : -100 ≤ x.toInt) (h2 : x.toInt ≤ 100) : (x + 1).toInt = x.toInt + 1 := by
  rw [Int32.toInt_add]
  show (x.toInt + 1).bmod (2 ^ 32) = _
  rw [Int.bmod_def]
  omega
theorem toInt_m1 {x : Int32} (h1 : -100 ≤ x.toInt) (h2 : x.toInt ≤ 100) : (x + -1).toInt = x.toInt - 1 := by
  rw [Int32.toInt_add]
  show (x.toInt + -1).bmod (2 ^ 32) = _
  rw [Int.bmod_def]
  omega
theorem margin_c {g : Nat → Int32} {B : Nat → Nat → Int32} {n m a b : Nat} {ρ : Nat → Nat → Nat} {X : Nat → Int32} (hn : n ≤ 6) (hm : m ≤ 9) (ha : a < n) (hb : b < n) (hR : RNK n m 0 0 ρ X (B 50)) : ∃ x, f10_margin g B (nI a) (nI b) (nI m) = some x ∧ x.toInt = 2 * (JJ ρ m a b : Int) - m := by
  unfold f10_margin
  refine loop_one (fun k (s : Int32 × Int32) => f10_margin_l6 g B (nI a) (nI b) (nI m) k s.1 s.2) m (fun j s => ∃ x, s = (x, nI j) ∧ x.toInt = 2 * (cnt (fun j => decide (ρ j a < ρ j b)) j : Int) - j) (fun P => ∃ x, P = some x ∧ x.toInt = 2 * (JJ ρ m a b : Int) - m) (by omega) ?_ (0, 0) ⟨0, rfl, rfl⟩
  rintro k j s hj ⟨x, rfl, hx⟩
  have ea : ∀ k x i, f10_margin_l6 g B (nI a) (nI b) (nI m) (k + 1) x i = f10_margin_b6 g B (nI a) (nI b) (nI m) (f10_margin_l6 g B (nI a) (nI b) (nI m) k) x i := fun _ _ _ => rfl
  simp only [ea]
  unfold f10_margin_b6
  by_cases h : m ≤ j
  · have : j = m := by omega
    subst this
    left
    rw [if_pos (show nI j ≤ nI j by rw [leI (by omega) (by omega)]; omega)]
    exact ⟨x, rfl, hx⟩
  right
  obtain ⟨-, x1, x3⟩ := hR.1 j a (by omega) ha
  obtain ⟨-, y1, y3⟩ := hR.1 j b (by omega) hb
  have i2 : ∀ c, 6 * nI j + nI c = nI (6 * j + c) := fun c => by
    rw [show (6 : Int32) = nI 6 from rfl, mulI, addI]
  rw [if_neg (show ¬ nI m ≤ nI j by rw [leI (by omega) (by omega)]; exact h), i2, i2, if_neg (nI_in (show 6 * j + a < 54 by omega) (by decide)), if_neg (nI_in (show 6 * j + b < 54 by omega) (by decide)), gx_nI (by omega), gx_nI (by omega), x1, y1, nI_s]
  refine ⟨by omega, ?_⟩
  have ec : cnt (fun j => decide (ρ j a < ρ j b)) (j + 1) = cnt (fun j => decide (ρ j a < ρ j b)) j + if decide (ρ j a < ρ j b) then 1 else 0 := rfl
  have cl := cnt_le (fun j => decide (ρ j a < ρ j b)) j
  by_cases q : ρ j b ≤ ρ j a
  · rw [if_pos (show nI (ρ j b) ≤ nI (ρ j a) by rw [leI (by omega) (by omega)]; exact q)]
    refine ⟨(x + -1, nI (j + 1)), rfl, x + -1, rfl, ?_⟩
    rw [ec, decide_eq_false (by omega), toInt_m1 (by omega) (by omega), hx]
    simp only [Bool.false_eq_true, if_false]
    omega
  · rw [if_neg (show ¬ nI (ρ j b) ≤ nI (ρ j a) by rw [leI (by omega) (by omega)]; exact q)]
    refine ⟨(x + 1, nI (j + 1)), rfl, x + 1, rfl, ?_⟩
    rw [ec, decide_eq_true (by omega), toInt_p1 (by omega) (by omega), hx]
    simp only [if_true]
    omega
