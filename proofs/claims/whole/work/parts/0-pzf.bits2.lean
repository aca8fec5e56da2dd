/-- the count of bits as the machine does it, over natural numbers -/
def sw1 (v : Nat) : Nat := v - (v / 2 &&& 1431655765)
def sw2 (v : Nat) : Nat := (v &&& 858993459) + (v / 4 &&& 858993459)
def sw3 (v : Nat) : Nat := v + v / 16 &&& 252645135
def sw4 (v : Nat) : Nat := v + v / 256
def sw5 (v : Nat) : Nat := v + v / 65536 &&& 63
def sw (v : Nat) : Nat := sw5 (sw4 (sw3 (sw2 (sw1 v))))
theorem sw_c {v : Nat} (hv : v < 65536) : fJ6_bitCount_0f7a4 (nI v) = nI (sw v) := by
  have u1 : ∀ x, x < 4294967296 → ushr (nI x) 1 = nI (x / 2) := fun x hx => ushr_nI (j := 1) hx (by decide)
  have u2 : ∀ x, x < 4294967296 → ushr (nI x) 2 = nI (x / 4) := fun x hx => ushr_nI (j := 2) hx (by decide)
  have u4 : ∀ x, x < 4294967296 → ushr (nI x) 4 = nI (x / 16) := fun x hx => ushr_nI (j := 4) hx (by decide)
  have u8 : ∀ x, x < 4294967296 → ushr (nI x) 8 = nI (x / 256) := fun x hx => ushr_nI (j := 8) hx (by decide)
  have u16 : ∀ x, x < 4294967296 → ushr (nI x) 16 = nI (x / 65536) := fun x hx => ushr_nI (j := 16) hx (by decide)
  have a1 : v / 2 &&& 1431655765 ≤ v / 2 := Nat.and_le_left
  have k1 : nI v - (ushr (nI v) 1 &&& 1431655765) = nI (sw1 v) := by
    rw [u1 v (by omega), show (1431655765 : Int32) = nI 1431655765 from rfl, andI, subI (by omega)]
    rfl
  have b1 : sw1 v ≤ v := Nat.sub_le _ _
  show fJ6_bitCount_0f7a4 (nI v) = nI (sw5 (sw4 (sw3 (sw2 (sw1 v)))))
  generalize sw1 v = v1 at k1 b1 ⊢
  have a2 : v1 &&& 858993459 ≤ v1 := Nat.and_le_left
  have a2' : v1 / 4 &&& 858993459 ≤ v1 / 4 := Nat.and_le_left
  have k2 : (nI v1 &&& 858993459) + (ushr (nI v1) 2 &&& 858993459) = nI (sw2 v1) := by
    rw [u2 v1 (by omega), show (858993459 : Int32) = nI 858993459 from rfl, andI, andI, addI]
    rfl
  have b2 : sw2 v1 ≤ 2 * 65536 := by unfold sw2; omega
  have a3 : sw2 v1 + sw2 v1 / 16 &&& 252645135 ≤ sw2 v1 + sw2 v1 / 16 := Nat.and_le_left
  have k3 : (nI (sw2 v1) + ushr (nI (sw2 v1)) 4) &&& 252645135 = nI (sw3 (sw2 v1)) := by
    rw [u4 _ (by omega), show (252645135 : Int32) = nI 252645135 from rfl, addI, andI]
    rfl
  have b3 : sw3 (sw2 v1) ≤ 4 * 65536 := by unfold sw3; omega
  have k4 : nI (sw3 (sw2 v1)) + ushr (nI (sw3 (sw2 v1))) 8 = nI (sw4 (sw3 (sw2 v1))) := by
    rw [u8 _ (by omega), addI]
    rfl
  have b4 : sw4 (sw3 (sw2 v1)) ≤ 8 * 65536 := by unfold sw4; omega
  have k5 : (nI (sw4 (sw3 (sw2 v1))) + ushr (nI (sw4 (sw3 (sw2 v1)))) 16) &&& 63 = nI (sw5 (sw4 (sw3 (sw2 v1)))) := by
    rw [u16 _ (by omega), show (63 : Int32) = nI 63 from rfl, addI, andI]
    rfl
  unfold fJ6_bitCount_0f7a4
  simp only [letv]
  rw [k1, k2, k3, k4, k5]
