/-! plain facts of the words, over nI -/
theorem i0_nI : (0 : Int32) = nI 0 := rfl
theorem i1_nI : (1 : Int32) = nI 1 := rfl
theorem n10 : ¬ (1 : Int32) = 0 := by decide
theorem nI_inF {c N : Nat} (h : c < N) (hN : N < 2147483648) : (nI c < 0 ∨ N ≤ (nI c).toNatClampNeg) = False := eq_false (nI_in h hN)
theorem nI_cl {n : Nat} (h : n < 2147483648) : (nI n).toNatClampNeg = n := nI_clamp h
theorem at_nI {N c : Nat} {xs : Nat → Int32} (h : c < N) (hN : N < 2147483648) : f9_at N xs (nI c) = xs c := by
  unfold f9_at
  rw [if_neg (nI_in h hN)]
  show xs (nI c).toNatClampNeg = xs c
  rw [nI_clamp (by omega)]
theorem put_nI {N c : Nat} {xs : Nat → Int32} {v : Int32} (h : c < N) (hN : N < 2147483648) : f9_put N xs (nI c) v = upd xs c v := by
  unfold f9_put
  rw [if_neg (nI_in h hN)]
  show upd xs (nI c).toNatClampNeg v = upd xs c v
  rw [nI_clamp (by omega)]
theorem gx_nI {c : Nat} {xs : Nat → Int32} (h : c < 2147483648) : gx xs (nI c) = xs c := by
  show xs (nI c).toNatClampNeg = xs c
  rw [nI_clamp h]
theorem ux_nI {c : Nat} {xs : Nat → Int32} {v : Int32} (h : c < 2147483648) : ux xs (nI c) v = upd xs c v := by
  show upd xs (nI c).toNatClampNeg v = upd xs c v
  rw [nI_clamp h]
theorem upd_s {f : Nat → Int32} {k : Nat} {x : Int32} : upd f k x k = x := by unfold upd; rw [if_pos rfl]
theorem upd_n {f : Nat → Int32} {k j : Nat} {x : Int32} (h : j ≠ k) : upd f k x j = f j := by unfold upd; rw [if_neg h]
theorem upd_ap (f : Nat → Int32) (k j : Nat) (x : Int32) : upd f k x j = if j = k then x else f j := rfl
theorem updA_s {A : Nat → Nat → Int32} {k : Nat} {x : Nat → Int32} : updA A k x k = x := by unfold updA; rw [if_pos rfl]
theorem updA_n {A : Nat → Nat → Int32} {k j : Nat} {x : Nat → Int32} (h : j ≠ k) : updA A k x j = A j := by unfold updA; rw [if_neg h]
theorem cset_s {α : Type} {σ : Nat → α} {i : Nat} {x : α} : cset σ i x i = x := by unfold cset; rw [if_pos rfl]
theorem cset_n {α : Type} {σ : Nat → α} {i j : Nat} {x : α} (h : j ≠ i) : cset σ i x j = σ j := by unfold cset; rw [if_neg h]
theorem in_eq : f10_in = f9_within := rfl
theorem within_c (x : Int32) {A B : Int32} {a b : Nat} (hA : A = nI a) (hB : B = nI b) (hab : a ≤ b) (hb : b < 2147483648) : (f9_within x A B = 0 ∧ ∀ j, a ≤ j → j ≤ b → x ≠ nI j) ∨ (f9_within x A B = 1 ∧ ∃ j, a ≤ j ∧ j ≤ b ∧ x = nI j) := by
  subst hA hB
  unfold f9_within
  by_cases h1 : x < nI a
  · rw [if_pos h1]
    refine Or.inl ⟨rfl, fun j h2 h3 e => ?_⟩
    subst e
    rw [nI_ltI (by omega) (by omega)] at h1
    omega
  · rw [if_neg h1]
    by_cases h2 : nI b < x
    · rw [if_pos h2]
      refine Or.inl ⟨rfl, fun j h3 h4 e => ?_⟩
      subst e
      rw [nI_ltI hb (by omega)] at h2
      omega
    · rw [if_neg h2]
      refine Or.inr ⟨rfl, ?_⟩
      rw [Int32.lt_iff_toInt_lt, nI_toInt (by omega)] at h1
      rw [Int32.lt_iff_toInt_lt, nI_toInt hb] at h2
      have h0 : ¬ x < 0 := by
        rw [Int32.lt_iff_toInt_lt]
        show ¬ x.toInt < (nI 0).toInt
        rw [nI_toInt (by decide)]
        omega
      obtain ⟨j, hj, rfl⟩ := nI_of h0
      rw [nI_toInt hj] at h1 h2
      exact ⟨j, by omega, by omega, rfl⟩
theorem sh_l : ∀ n, n < 32 → ((nI n &&& 31).toBitVec.smod 32).toNat = n := by decide +kernel
theorem sh_u : ∀ n, n < 32 → (((nI n).toUInt32 &&& Int32.toUInt32 31).toBitVec % 32).toNat = n := by decide +kernel
theorem m31 : ∀ n, n < 32 → nI n &&& 31 = nI n := by decide +kernel
theorem shl_nI {a j : Nat} (hj : j < 32) (h : a * 2 ^ j < 2 ^ 32) : shl (nI a) (nI j) = nI (a * 2 ^ j) := by
  show nI a <<< (nI j &&& 31) = _
  exact pk_shlN _ j (sh_l j hj) h
theorem shl1 {j : Nat} (hj : j < 31) : shl 1 (nI j) = nI (2 ^ j) := by
  rw [i1_nI, shl_nI (by omega) (by
    have : 2 ^ j ≤ 2 ^ 30 := Nat.pow_le_pow_right (by decide) (by omega)
    omega), Nat.one_mul]
theorem shr_nI {a j : Nat} (ha : a < 2 ^ 31) (hj : j < 32) : shr (nI a) (nI j) = nI (a / 2 ^ j) := by
  show nI a >>> (nI j &&& 31) = _
  exact pk_shrN ha _ j (sh_l j hj)
theorem ushr_nI {a j : Nat} (ha : a < 2 ^ 32) (hj : j < 32) : ushr (nI a) (nI j) = nI (a / 2 ^ j) := pk_ushrN ha _ j (sh_u j hj)
theorem and1_nI {a : Nat} (ha : a < 2 ^ 32) : nI a &&& 1 = nI (a % 2) := pk_andN ha 1 (by decide)
theorem or_nI (a b : Nat) : nI a ||| nI b = nI (a ||| b) := by
  show Int32.ofNat a ||| Int32.ofNat b = Int32.ofNat (a ||| b)
  apply Int32.toBitVec_inj.mp
  simp [BitVec.ofNat_or]
theorem bit_of {a : Nat} (ha : a < 2 ^ 31) (j : Nat) : (nI (a / 2 ^ j % 2) = 1) = (a.testBit j = true) := by
  apply propext
  rw [i1_nI, nI_eq (by omega) (by decide), Nat.testBit_eq_decide_div_mod_eq]
  simp
theorem has9 {T j : Nat} (hT : T < 2 ^ 31) (hj : j < 32) : f9_has (nI T) (nI j) = if T.testBit j then 1 else 0 := by
  unfold f9_has
  rcases within_c (nI j) (A := 0) (B := 31) (a := 0) (b := 31) rfl rfl (by decide) (by decide) with ⟨_, h⟩ | ⟨h, _⟩
  · exact absurd rfl (h j (by omega) (by omega))
  · rw [h, if_neg n10, ushr_nI (by omega) hj, and1_nI (Nat.lt_of_le_of_lt (Nat.div_le_self _ _) (by omega))]
    simp only [bit_of hT]
theorem has9_big {x y : Int32} (h : f9_within y 0 31 = 0) : f9_has x y = 0 := by
  unfold f9_has
  rw [if_pos h]
theorem has10 {T j : Nat} (hT : T < 2 ^ 31) (hj : j < 32) : f10_has (nI T) (nI j) = if T.testBit j then 1 else 0 := by
  unfold f10_has
  rw [shr_nI hT hj, and1_nI (Nat.lt_of_le_of_lt (Nat.div_le_self _ _) (by omega))]
  simp only [bit_of hT]
