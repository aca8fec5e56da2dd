/-! the relation between the class's state and the reference's -/
/-- the borough: T the told places, nx the lanes -/
def RB (T : Nat) (nx : Nat → Nat) (told told' : Int32) (next next' : Nat → Int32) : Prop :=
  T < 65536 ∧ told = nI T ∧ told' = nI T ∧ (∀ p, p < 16 → next p = nI (nx p) ∧ next' p = nI (nx p) ∧ nx p < 65536) ∧ (∀ p q, p < 16 → q < 16 → (nx p).testBit q = (nx q).testBit p) ∧ (∀ p, p < 16 → (nx p).testBit p = false) ∧ (∀ p q, p < 16 → (nx p).testBit q = true → T.testBit p = true ∧ T.testBit q = true)
/-- what hours change -/
def RS (T : Nat) (fs : Nat → Int32) (As : Nat → Nat → Int32) (An : Nat → Int32) : Prop :=
  (∀ p, p < 16 → (∃ v, v ≤ 99 ∧ As 0 p = nI v ∧ An p = nI v) ∧ (∃ v, v ≤ 999 ∧ As 1 p = nI v ∧ An (16 + p) = nI v) ∧ (∃ v, v ≤ 99 ∧ As 2 p = nI v ∧ An (32 + p) = nI v)) ∧
  (∃ F, F < 256 ∧ fs 5 = nI F ∧ ∀ c, c < 8 → An (48 + c) = (if F.testBit c then 1 else 0) ∧ ∃ w, w < 16 ∧ As 3 c = nI w ∧ An (56 + c) = nI w ∧ (F.testBit c = true → T.testBit w = true)) ∧
  (∃ hr, hr ≤ 9999 ∧ fs 8 = nI hr ∧ An 74 = nI hr ∧ ∀ c, c < 8 → ∃ v, v ≤ 99 * hr ∧ As 4 c = nI v ∧ An (64 + c) = nI v) ∧
  (∃ v, v ≤ 999999 ∧ fs 6 = nI v ∧ An 72 = nI v) ∧ (∃ v, v ≤ 9999 ∧ fs 7 = nI v ∧ An 73 = nI v) ∧ (∃ v, v < 65536 ∧ fs 9 = nI v ∧ An 75 = nI v)
/-- the tape -/
def RT (size taped : Int32) (bytes tape : Nat → Int32) : Prop :=
  ∃ sz, sz ≤ 260 ∧ size = nI sz ∧ taped = nI sz ∧ ∀ i, i < sz → ∃ v, v < 256 ∧ bytes i = nI v ∧ tape i &&& 255 = nI v
/-- the beats -/
def RW (fW : Nat → Nat → Int32) (AW : Nat → Nat → Nat → Int32) (long of : Nat → Int32) : Prop :=
  ∀ c, c < 8 → ∃ n, n ≤ 48 ∧ fW c 1 = nI n ∧ long c = nI n ∧ ∀ k, k < n → AW c 0 k = of (48 * c + k) ∧ (AW c 0 k = -1 ∨ ∃ v, v < 16 ∧ AW c 0 k = nI v)
/-- what is kept -/
def RK (T : Nat) (was isk : Int32) (fs : Nat → Int32) (As : Nat → Nat → Int32) (An : Nat → Int32) : Prop :=
  (was = 0 ∧ isk = 0) ∨ (was = 1 ∧ isk = 1 ∧ RS T fs As An)
/-- orders that are whole: true, a number comes of them; false, 0 or 1 -/
def WF (op vl : Nat → Nat) : Nat → Bool → Nat → Nat → Prop
  | 0, _, _, _ => False
  | n + 1, true, a, b => (b = a + 1 ∧ (op a = 0 ∨ op a = 1 ∧ vl a < 8)) ∨ (∃ m, WF op vl n true a m ∧ WF op vl n true m (b - 1) ∧ 2 ≤ op (b - 1) ∧ op (b - 1) ≤ 6 ∧ m < b)
  | n + 1, false, a, b => (∃ m, WF op vl n true a m ∧ WF op vl n true m (b - 1) ∧ 7 ≤ op (b - 1) ∧ op (b - 1) ≤ 9 ∧ m < b) ∨ (WF op vl n false a (b - 1) ∧ op (b - 1) = 10 ∧ a < b) ∨ (∃ m, WF op vl n false a m ∧ (op m = 11 ∨ op m = 12) ∧ vl m = b ∧ WF op vl n false (m + 1) b)
/-- the class's sign for an order of the reference -/
def COP (o : Nat) : Nat := [1, 2, 43, 45, 42, 47, 37, 60, 62, 61, 3, 4, 5].getD o 0
/-- the law -/
def RLaw (rules clauses : Int32) (AL : Nat → Nat → Int32) (codes clauseOf cFrom cHalf cTo : Nat → Int32) : Prop :=
  ∃ (k : Nat) (op vl : Nat → Nat), k ≤ 16 ∧ rules = nI k ∧ clauses = nI k ∧ ∀ i, i < k → ∃ z a b e : Nat, (z = 119 ∨ z = 114 ∨ z = 115) ∧ AL 2 i = nI z ∧ clauseOf i = nI z ∧ AL 3 i = nI a ∧ cFrom i = nI a ∧ AL 4 i = nI b ∧ cHalf i = nI b ∧ AL 5 i = nI e ∧ cTo i = nI e ∧ a ≤ b ∧ b ≤ e ∧ e ≤ 240 ∧ (z ≠ 115 → ∃ n, WF op vl n true a b) ∧ (∃ n, WF op vl n false b e) ∧
    ∀ j, a ≤ j → j < e → op j ≤ 12 ∧ vl j < 1048576 ∧ AL 0 j = nI (COP (op j)) ∧ AL 1 j = nI (vl j) ∧ codes j = nI (1048576 * op j + vl j)
/-- the rows of the rounds: nothing stands in them between two calls -/
def RX (ends stepsTo : Nat → Int32) : Prop := (∀ i, i < 65536 → ends i = 0) ∧ ∀ i, i < 1048576 → stepsTo i = 0
def INV (σf : Nat → Nat → Int32) (σA : Nat → Nat → Nat → Int32) (fW : Nat → Nat → Int32) (AW : Nat → Nat → Nat → Int32) (μf : Nat → Int32) (μA : Nat → Nat → Int32) : Prop :=
  ∃ (T : Nat) (nx : Nat → Nat), RB T nx (σf 2 0) (μf 6) (σA 2 1) (μA 3) ∧ RS T (σf 3) (σA 3) (μA 0) ∧ RT (σf 1 1) (μf 8) (σA 1 0) (μA 7) ∧ RW fW AW (μA 4) (μA 5) ∧ RK T (σf 0 14) (μf 51) (σf 5) (σA 5) (μA 2) ∧ RLaw (σf 10 9) (μf 17) (σA 10) (μA 24) (μA 25) (μA 26) (μA 27) (μA 28) ∧ RX (σA 12 0) (μA 43)
theorem inv_ini : INV ini_f ini_A ini_W ini_A ini_m ini_M := by
  have z : (0 : Int32) = nI 0 := rfl
  refine ⟨0, fun _ => 0, ?_, ?_, ?_, ?_, ?_, ?_, ?_⟩
  · exact ⟨by decide, rfl, rfl, fun p _ => ⟨rfl, rfl, Nat.zero_lt_succ _⟩, fun p q _ _ => by simp, fun p _ => by simp, fun p q _ h => by simp at h⟩
  · refine ⟨fun p hp => ⟨⟨0, by decide, rfl, ?_⟩, ⟨0, by decide, rfl, ?_⟩, ⟨0, by decide, rfl, ?_⟩⟩, ⟨0, by decide, rfl, fun c hc => ⟨?_, 0, by decide, rfl, ?_, fun h => by simp at h⟩⟩, ⟨0, by decide, rfl, rfl, fun c hc => ⟨0, by omega, rfl, ?_⟩⟩, ⟨0, by decide, rfl, rfl⟩, ⟨0, by decide, rfl, rfl⟩, ⟨1, by decide, rfl, rfl⟩⟩
    · show (if p = (75 : Int32).toNatClampNeg then (1 : Int32) else 0) = nI 0
      rw [if_neg (by have : (75 : Int32).toNatClampNeg = 75 := by decide
                     omega)]
      rfl
    · show (if 16 + p = (75 : Int32).toNatClampNeg then (1 : Int32) else 0) = nI 0
      rw [if_neg (by have : (75 : Int32).toNatClampNeg = 75 := by decide
                     omega)]
      rfl
    · show (if 32 + p = (75 : Int32).toNatClampNeg then (1 : Int32) else 0) = nI 0
      rw [if_neg (by have : (75 : Int32).toNatClampNeg = 75 := by decide
                     omega)]
      rfl
    · show (if 48 + c = (75 : Int32).toNatClampNeg then (1 : Int32) else 0) = _
      rw [if_neg (by have : (75 : Int32).toNatClampNeg = 75 := by decide
                     omega)]
      simp
    · show (if 56 + c = (75 : Int32).toNatClampNeg then (1 : Int32) else 0) = nI 0
      rw [if_neg (by have : (75 : Int32).toNatClampNeg = 75 := by decide
                     omega)]
      rfl
    · show (if 64 + c = (75 : Int32).toNatClampNeg then (1 : Int32) else 0) = nI 0
      rw [if_neg (by have : (75 : Int32).toNatClampNeg = 75 := by decide
                     omega)]
      rfl
  · exact ⟨0, by decide, rfl, rfl, fun i h => absurd h (by omega)⟩
  · exact fun c _ => ⟨0, by decide, rfl, rfl, fun k h => absurd h (by omega)⟩
  · exact Or.inl ⟨rfl, rfl⟩
  · exact ⟨0, fun _ => 0, fun _ => 0, by decide, rfl, rfl, fun i h => absurd h (by omega)⟩
  · exact ⟨fun _ _ => rfl, fun _ _ => rfl⟩
