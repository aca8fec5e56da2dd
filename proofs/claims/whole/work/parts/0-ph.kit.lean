/-! the short words: all that is a number becomes nI of a natural one, by one simp -/
theorem litI (n : Nat) : (OfNat.ofNat n : Int32) = nI n := Eq.trans rfl rfl
theorem eqI {a b : Nat} (ha : a < 2147483648) (hb : b < 2147483648) : (nI a = nI b) = (a = b) := propext (nI_eq ha hb)
theorem leI {a b : Nat} (ha : a < 2147483648) (hb : b < 2147483648) : (nI a ≤ nI b) = (a ≤ b) := propext (nI_leI ha hb)
theorem ltI {a b : Nat} (ha : a < 2147483648) (hb : b < 2147483648) : (nI a < nI b) = (a < b) := propext (nI_ltI ha hb)
theorem addI (a b : Nat) : nI a + nI b = nI (a + b) := nI_add a b
theorem mulI (a b : Nat) : nI a * nI b = nI (a * b) := pk_mul a b
theorem subI {a b : Nat} (h : b ≤ a) : nI a - nI b = nI (a - b) := pk_sub h
theorem clI {n : Nat} (h : n < 2147483648) : (nI n).toNatClampNeg = n := nI_clamp h
theorem orI (a b : Nat) : nI a ||| nI b = nI (a ||| b) := or_nI a b
theorem andI (a b : Nat) : nI a &&& nI b = nI (a &&& b) := by
  show Int32.ofNat a &&& Int32.ofNat b = Int32.ofNat (a &&& b)
  apply Int32.toBitVec_inj.mp
  simp [BitVec.ofNat_and]
theorem shl1I {j : Nat} (hj : j < 31) : shl (nI 1) (nI j) = nI (2 ^ j) := shl1 hj
theorem divI {a d : Nat} (ha : a < 2147483648) (h0 : 0 < d) (hd : d < 2147483648) : nI a / nI d = nI (a / d) := pk_div ha h0 hd
theorem irmI {a d : Nat} (ha : a < 2147483648) (h0 : 0 < d) (hd : d < 2147483648) : irm (nI a) (nI d) = nI (a % d) := pk_rem ha h0 hd
theorem ifb0 (c : Prop) [Decidable c] : ((if c then nI 1 else nI 0) = nI 0) = ¬ c := by
  by_cases h : c
  · rw [if_pos h]; exact propext ⟨fun e => absurd e (by decide), fun e => absurd h e⟩
  · rw [if_neg h]; exact propext ⟨fun _ => h, fun _ => rfl⟩
theorem ifb1 (c : Prop) [Decidable c] : ((if c then nI 1 else nI 0) = nI 1) = c := by
  by_cases h : c
  · rw [if_pos h]; exact propext ⟨fun _ => h, fun _ => rfl⟩
  · rw [if_neg h]; exact propext ⟨fun e => absurd e (by decide), fun e => absurd e h⟩
theorem neg_eq {a b : Nat} (h0 : 0 < a) (ha : a < 1073741824) (hb : b < 1073741824) : (-nI a = nI b) = False := by
  apply eq_false
  intro h
  have h2 : (-nI a).toInt = (nI b).toInt := by rw [h]
  rw [sb_negT (by omega), nI_toInt (by omega)] at h2
  omega
theorem eq_neg {a b : Nat} (h0 : 0 < a) (ha : a < 1073741824) (hb : b < 1073741824) : (nI b = -nI a) = False := by
  exact eq_false (fun h => (neg_eq h0 ha hb).mp h.symm)
theorem neg_lt {a b : Nat} (h0 : 0 < a) (ha : a < 1073741824) (hb : b < 1073741824) : (-nI a < nI b) = True := by
  apply eq_true
  rw [Int32.lt_iff_toInt_lt, sb_negT (by omega), nI_toInt (by omega)]
  omega
theorem lt_neg {a b : Nat} (h0 : 0 < a) (ha : a < 1073741824) (hb : b < 1073741824) : (nI b < -nI a) = False := by
  apply eq_false
  rw [Int32.lt_iff_toInt_lt, sb_negT (by omega), nI_toInt (by omega)]
  omega
theorem neg_le {a b : Nat} (ha : a < 1073741824) (hb : b < 1073741824) : (-nI a ≤ nI b) = True := by
  apply eq_true
  rw [Int32.le_iff_toInt_le, sb_negT (by omega), nI_toInt (by omega)]
  omega
theorem le_neg {a b : Nat} (h0 : 0 < a) (ha : a < 1073741824) (hb : b < 1073741824) : (nI b ≤ -nI a) = False := by
  apply eq_false
  rw [Int32.le_iff_toInt_le, sb_negT (by omega), nI_toInt (by omega)]
  omega
theorem withinI {x a b : Nat} (hx : x < 2147483648) (ha : a < 2147483648) (hb : b < 2147483648) : f9_within (nI x) (nI a) (nI b) = if a ≤ x ∧ x ≤ b then nI 1 else nI 0 := by
  unfold f9_within
  simp (disch := omega) only [ltI, litI]
  by_cases h1 : x < a
  · rw [if_pos h1, if_neg (by omega)]
  · rw [if_neg h1]
    by_cases h2 : b < x
    · rw [if_pos h2, if_neg (by omega)]
    · rw [if_neg h2, if_pos (by omega)]
theorem inI_eq {x a b : Nat} (hx : x < 2147483648) (ha : a < 2147483648) (hb : b < 2147483648) : f10_in (nI x) (nI a) (nI b) = if a ≤ x ∧ x ≤ b then nI 1 else nI 0 := withinI hx ha hb
/-- two loops that go side by side -/
theorem loop_rel {σ τ R R' : Type} (L : Nat → σ → Option R) (M : Nat → τ → Option R') (N : Nat) (P : Nat → σ → τ → Prop) (Q : Option R → Option R' → Prop) (hN : N < 2 ^ 200)
    (h : ∀ n m j s t, j ≤ N → P j s t → Q (L (n + 1) s) (M (m + 1) t) ∨ (j < N ∧ ∃ s' t', L (n + 1) s = L n s' ∧ M (m + 1) t = M m t' ∧ P (j + 1) s' t')) (s : σ) (t : τ) (hP : P 0 s t) : Q (L NF s) (M NF t) := by
  have key : ∀ (k j : Nat) (s : σ) (t : τ) (n m : Nat), j + k = N → k < n → k < m → P j s t → Q (L n s) (M m t) := by
    intro k
    induction k with
    | zero =>
      intro j s t n m hj hn hm hP
      obtain ⟨n', rfl⟩ : ∃ i, n = i + 1 := ⟨n - 1, by omega⟩
      obtain ⟨m', rfl⟩ : ∃ i, m = i + 1 := ⟨m - 1, by omega⟩
      rcases h n' m' j s t (by omega) hP with h1 | ⟨h1, _⟩
      · exact h1
      · omega
    | succ k ih =>
      intro j s t n m hj hn hm hP
      obtain ⟨n', rfl⟩ : ∃ i, n = i + 1 := ⟨n - 1, by omega⟩
      obtain ⟨m', rfl⟩ : ∃ i, m = i + 1 := ⟨m - 1, by omega⟩
      rcases h n' m' j s t (by omega) hP with h1 | ⟨h1, s', t', e1, e2, hP'⟩
      · exact h1
      · rw [e1, e2]
        exact ih (j + 1) s' t' n' m' (by omega) (by omega) (by omega) hP'
  exact key N 0 s t NF NF (by omega) (Nat.lt_of_lt_of_le hN NF_ge) (Nat.lt_of_lt_of_le hN NF_ge) hP
/-- one loop -/
theorem loop_one {σ R : Type} (L : Nat → σ → Option R) (N : Nat) (P : Nat → σ → Prop) (Q : Option R → Prop) (hN : N < 2 ^ 200)
    (h : ∀ n j s, j ≤ N → P j s → Q (L (n + 1) s) ∨ (j < N ∧ ∃ s', L (n + 1) s = L n s' ∧ P (j + 1) s')) (s : σ) (hP : P 0 s) : Q (L NF s) := by
  have key : ∀ (k j : Nat) (s : σ) (n : Nat), j + k = N → k < n → P j s → Q (L n s) := by
    intro k
    induction k with
    | zero =>
      intro j s n hj hn hP
      obtain ⟨n', rfl⟩ : ∃ i, n = i + 1 := ⟨n - 1, by omega⟩
      rcases h n' j s (by omega) hP with h1 | ⟨h1, _⟩
      · exact h1
      · omega
    | succ k ih =>
      intro j s n hj hn hP
      obtain ⟨n', rfl⟩ : ∃ i, n = i + 1 := ⟨n - 1, by omega⟩
      rcases h n' j s (by omega) hP with h1 | ⟨h1, s', e1, hP'⟩
      · exact h1
      · rw [e1]
        exact ih (j + 1) s' n' (by omega) (by omega) hP'
  exact key N 0 s NF (by omega) (Nat.lt_of_lt_of_le hN NF_ge) hP
/-! the tape -/
theorem RT.bytes {size taped : Int32} {bytes tape : Nat → Int32} (h : RT size taped bytes tape) : ∃ (sz : Nat) (b : Nat → Nat), sz ≤ 260 ∧ size = nI sz ∧ taped = nI sz ∧ (∀ i, b i < 256) ∧ ∀ i, i < sz → bytes i = nI (b i) ∧ tape i &&& 255 = nI (b i) := by
  obtain ⟨sz, h1, h2, h3, h4⟩ := h
  refine ⟨sz, fun i => if q : i < sz then (h4 i q).choose else 0, h1, h2, h3, fun i => ?_, fun i hi => ?_⟩
  · show (if q : i < sz then (h4 i q).choose else 0) < 256
    by_cases q : i < sz
    · rw [dif_pos q]; exact (h4 i q).choose_spec.1
    · rw [dif_neg q]; decide
  · show bytes i = nI (if q : i < sz then (h4 i q).choose else 0) ∧ tape i &&& 255 = nI (if q : i < sz then (h4 i q).choose else 0)
    rw [dif_pos hi]
    exact (h4 i hi).choose_spec.2
theorem cset_id {α : Type} (σ : Nat → α) (i : Nat) : cset σ i (σ i) = σ := by
  funext j
  unfold cset
  by_cases h : j = i
  · rw [if_pos h, h]
  · rw [if_neg h]
theorem inv_tape0 {σf : Nat → Nat → Int32} {σA : Nat → Nat → Nat → Int32} {fW : Nat → Nat → Int32} {AW : Nat → Nat → Nat → Int32} {μf : Nat → Int32} {μA : Nat → Nat → Int32} (h : INV σf σA fW AW μf μA) {z : Nat → Int32} (hz : z 1 = 0) {y : Int32} (hy : y = 0) : INV (cset σf 1 z) σA fW AW (upd μf 8 y) μA := by
  obtain ⟨T, nx, hB, hS, hT, hW, hK, hL, hX⟩ := h
  refine ⟨T, nx, hB, hS, ?_, hW, hK, hL, hX⟩
  refine ⟨0, by decide, hz, ?_, fun i h => absurd h (by omega)⟩
  subst hy
  exact upd_s
theorem open_1 {f : Nat → Int32} {A : Nat → Nat → Int32} {x : Int32} : f7_open f A x 1 = 0 := rfl
theorem open_2 {f : Nat → Int32} {A : Nat → Nat → Int32} {x : Int32} : f7_open f A x 2 = x := rfl
theorem open_3 {f : Nat → Int32} {A : Nat → Nat → Int32} {x : Int32} : f7_open f A x 3 = 0 := rfl
theorem open_4 {f : Nat → Int32} {A : Nat → Nat → Int32} {x : Int32} : f7_open f A x 4 = 0 := rfl
theorem open_5 {f : Nat → Int32} {A : Nat → Nat → Int32} {x : Int32} : f7_open f A x 5 = 0 := rfl
theorem byteAt_c {f : Nat → Int32} {A : Nat → Nat → Int32} {n : Nat} {b : Nat → Nat} (e2 : f 2 = nI n) (hn : n ≤ 260) (hb : ∀ i, i < n → A 0 i = nI (b i)) {i : Nat} (hi : i < n) : f7_byteAt f A (nI i) = nI (b i) := by
  unfold f7_byteAt
  rw [e2, if_neg (by rw [nI_leI (by omega) (by omega)]; omega), at_nI (by omega) (by decide), hb i hi]
theorem octet_c {f : Nat → Int32} {A : Nat → Nat → Int32} {n : Nat} {b : Nat → Nat} (hn : n ≤ 260) (hb : ∀ i, i < n → A 7 i &&& 255 = nI (b i)) {i : Nat} (hi : i < n) : f10_octet f A (nI i) = some (nI (b i)) := by
  unfold f10_octet
  rw [if_neg (nI_in (by omega) (by decide)), gx_nI (by omega), hb i hi]
theorem holds_c {f : Nat → Int32} {A : Nat → Nat → Int32} {sz m : Nat} (e1 : f 1 = nI sz) (hs : sz ≤ 260) (hm : m < 2147483648) : f7_holds f A (nI m) = if m ≤ sz then nI 1 else nI 0 := by
  unfold f7_holds
  rw [e1]
  by_cases h : m ≤ sz
  · rw [if_neg (by rw [ltI (by omega) hm]; omega), if_pos h]; rfl
  · rw [if_pos (by rw [ltI (by omega) hm]; omega), if_neg h]; rfl
theorem told10 {f : Nat → Int32} {A : Nat → Nat → Int32} {T : Nat} (hT : T < 65536) (e6 : f 6 = nI T) {p : Nat} (hp : p < 16) : f10_isTold f A (nI p) = if T.testBit p then nI 1 else nI 0 := by
  unfold f10_isTold
  rw [in_eq, show (0 : Int32) = nI 0 from rfl, show (15 : Int32) = nI 15 from rfl, withinI (by omega) (by omega) (by omega), if_pos (show 0 ≤ p ∧ p ≤ 15 by omega), if_neg (show ¬ nI 1 = nI 0 by decide), e6, has10 (by omega) (by omega)]
  by_cases q : T.testBit p = true
  · rw [if_pos q, if_neg (by decide), if_pos q]; rfl
  · rw [if_neg q, if_pos (by decide), if_neg q]
theorem told9 {f : Nat → Int32} {A : Nat → Nat → Int32} {T : Nat} (hT : T < 65536) (e0 : f 0 = nI T) {p : Nat} (hp : p < 16) : f1_isTold f A (nI p) = if T.testBit p then nI 1 else nI 0 := told_p hT e0 hp
theorem man9 {fs : Nat → Int32} {As : Nat → Nat → Int32} {F : Nat} (hF : F < 256) (e5 : fs 5 = nI F) {c : Nat} (hc : c < 8) : f6_isTold fs As (nI c) = if F.testBit c then nI 1 else nI 0 := isTold6 hF e5 hc
theorem man10 {f : Nat → Int32} {A : Nat → Nat → Int32} {F : Nat} (hm : ∀ c, c < 8 → A 0 (48 + c) = if F.testBit c then 1 else 0) {c : Nat} (hc : c < 8) : f10_isMan f A (nI c) = some (if F.testBit c then nI 1 else nI 0) := isMan10 hm hc
theorem has9I {T j : Nat} (hT : T < 2147483648) (hj : j < 32) : f9_has (nI T) (nI j) = if T.testBit j then nI 1 else nI 0 := has9 hT hj
theorem has10I {T j : Nat} (hT : T < 2147483648) (hj : j < 32) : f10_has (nI T) (nI j) = if T.testBit j then nI 1 else nI 0 := has10 hT hj
