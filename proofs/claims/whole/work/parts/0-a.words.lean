/-! the words in which the functions of the methods are written -/
/-- the words of the walks -/
def letv {α β : Type} (x : α) (k : α → β) : β := k x
theorem lvl {α β : Type} {x : α} {k : α → β} {r : β} (h : letv x k = r) : ∃ y, y = x ∧ k y = r := ⟨x, rfl, h⟩
theorem ob {c : Prop} [Decidable c] {α : Type} {X : Option α} {r : α} (h : (if c then none else X) = some r) : ¬ c ∧ X = some r := by
  by_cases hc : c
  · rw [if_pos hc] at h; cases h
  · rw [if_neg hc] at h; exact ⟨hc, h⟩
theorem ob2 {α β : Type} {x : Option α} {k : α → Option β} {r : β} (h : x.bind k = some r) : ∃ y, x = some y ∧ k y = some r := by
  cases x with
  | none => cases h
  | some y => exact ⟨y, rfl, h⟩
abbrev gx (xs : Nat → Int32) (i : Int32) : Int32 := xs i.toNatClampNeg
abbrev ux (xs : Nat → Int32) (i : Int32) (v : Int32) : Nat → Int32 := upd xs i.toNatClampNeg v
def updA (A : Nat → Nat → Int32) (k : Nat) (x : Nat → Int32) : Nat → Nat → Int32 := fun j => if j = k then x else A j
abbrev shl (x y : Int32) : Int32 := x <<< (y &&& 31)
abbrev shr (x y : Int32) : Int32 := x >>> (y &&& 31)
abbrev ushr (x y : Int32) : Int32 := (x.toUInt32 >>> (y.toUInt32 &&& Int32.toUInt32 31)).toInt32
abbrev i2b (x : Int32) : Int32 := x.toInt8.toInt32
abbrev irm (x y : Int32) : Int32 := x - x / y * y
theorem vin {i : Int32} {n : Nat} (h : decide (i < 0 ∨ n ≤ i.toNatClampNeg) = false) : vp_in i n := of_decide_eq_false h
theorem NF_ex : ∃ n : Nat, 2 ^ 200 ≤ n := ⟨_, Nat.le_refl _⟩
noncomputable def NF : Nat := Classical.choose NF_ex
theorem NF_ge : 2 ^ 200 ≤ NF := Classical.choose_spec NF_ex
