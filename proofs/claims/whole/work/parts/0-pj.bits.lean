/-! bits (kit/laws/BITS.to-paste began these) -/
def bt (x : Int32) (i : Nat) : Bool := x.toBitVec.getLsbD i
theorem b_ext {x y : Int32} (h : ∀ i, i < 32 → bt x i = bt y i) : x = y := Int32.toBitVec_inj.mp (BitVec.eq_of_getLsbD_eq (fun i hi => h i hi))
theorem b_and (x y : Int32) (i : Nat) : bt (x &&& y) i = (bt x i && bt y i) := by unfold bt; rw [Int32.toBitVec_and, BitVec.getLsbD_and]
theorem b_big {x : Int32} {i : Nat} (h : 32 ≤ i) : bt x i = false := BitVec.getLsbD_of_ge _ _ h
theorem b_255 (i : Nat) : bt 255 i = decide (i < 8) := by
  rcases Nat.lt_or_ge i 32 with h | h
  · exact (by decide +kernel : ∀ i, i < 32 → bt 255 i = decide (i < 8)) i h
  · rw [b_big h, decide_eq_false (by omega)]
theorem b_ushr (n : Nat) (hn : n < 32) (x : Int32) (i : Nat) : bt ((x.toUInt32 >>> ((nI n).toUInt32 &&& Int32.toUInt32 31)).toInt32) i = bt x (n + i) := by
  show (x.toUInt32 >>> ((nI n).toUInt32 &&& Int32.toUInt32 31)).toBitVec.getLsbD i = x.toUInt32.toBitVec.getLsbD (n + i)
  rw [UInt32.toBitVec_shiftRight]
  show (x.toUInt32.toBitVec >>> (((nI n).toUInt32 &&& Int32.toUInt32 31).toBitVec % 32).toNat).getLsbD i = _
  rw [sh_u n hn, BitVec.getLsbD_ushiftRight]
theorem b_sshr (n : Nat) (hn : n < 32) (x : Int32) {i : Nat} (hi : i < 32) : bt (x >>> (nI n &&& 31)) i = if n + i < 32 then bt x (n + i) else bt x 31 := by
  unfold bt
  rw [Int32.toBitVec_shiftRight]
  show (x.toBitVec.sshiftRight ((nI n &&& 31).toBitVec.smod 32).toNat).getLsbD i = _
  rw [sh_l n hn, BitVec.getLsbD_sshiftRight, BitVec.msb_eq_getLsbD_last]
  simp [hi]
theorem byte_same (x : Int32) {n : Nat} (hn : n ≤ 24) : shr x (nI n) &&& 255 = ushr x (nI n) &&& 255 := by
  apply b_ext
  intro i hi
  rw [b_and, b_and, b_255]
  show (bt (x >>> (nI n &&& 31)) i && decide (i < 8)) = (bt ((x.toUInt32 >>> ((nI n).toUInt32 &&& Int32.toUInt32 31)).toInt32) i && decide (i < 8))
  rw [b_sshr n (by omega) x hi, b_ushr n (by omega)]
  by_cases h : i < 8
  · rw [if_pos (by omega)]
  · rw [decide_eq_false h, Bool.and_false, Bool.and_false]
theorem b_byte (x : Int32) : x.toInt8.toInt32 &&& 255 = x &&& 255 := by
  apply Int32.toBitVec_inj.mp
  rw [Int32.toBitVec_and, Int32.toBitVec_and, Int8.toBitVec_toInt32, Int32.toBitVec_toInt8]
  apply BitVec.eq_of_getLsbD_eq
  intro i hi
  rw [BitVec.getLsbD_and, BitVec.getLsbD_and]
  have hm : ∀ i < 32, 8 ≤ i → (255 : Int32).toBitVec.getLsbD i = false := by decide
  rcases Nat.lt_or_ge i 8 with z | z
  · rw [BitVec.getLsbD_signExtend, BitVec.getLsbD_signExtend, if_pos z, if_pos hi]
    simp only [z, hi, decide_true, Bool.true_and]
  · rw [hm i hi z]; simp
theorem nar_byte (x : Int32) : vp_nar .byte (i2b x) &&& 255 = x &&& 255 := by
  show vp_nar .byte x.toInt8.toInt32 &&& 255 = _
  rw [pk_vb, b_byte]
theorem byte_lt (x : Int32) : ∃ v : Nat, v < 256 ∧ x &&& 255 = nI v := by
  obtain ⟨j, h1, h2⟩ := pk_andE x (m := 255) 8 (by decide)
  exact ⟨j, h1, h2⟩
/-- how many of the first n bits -/
def popc (v : Nat) : Nat → Nat
  | 0 => 0
  | n + 1 => popc v n + v / 2 ^ n % 2
theorem popc_le (v n : Nat) : popc v n ≤ n := by
  induction n with
  | zero => exact Nat.le_refl _
  | succ n ih =>
    unfold popc
    have : v / 2 ^ n % 2 < 2 := Nat.mod_lt _ (by decide)
    omega
theorem bits10 {v : Nat} (hv : v < 2147483648) : f10_bits (nI v) = some (nI (popc v 16)) := by
  unfold f10_bits
  refine loop_one (fun n (s : Int32 × Int32) => f10_bits_l4 (nI v) n s.1 s.2) 16 (fun j s => s = (nI (popc v j), nI j)) (fun a => a = some (nI (popc v 16))) (by decide) ?_ (0, 0) rfl
  rintro n j s hj rfl
  simp (disch := omega) only [f10_bits_l4, f10_bits_b4, litI, letv, eqI, leI, ltI, addI, mulI, subI, clI, at_nI, put_nI, nI_s, orI, shl1I, ifb0, ifb1, Option.bind_some, gx, ux, Nat.add_zero, Nat.zero_add, Nat.not_lt_zero, false_or, or_false, Nat.mul_zero, Nat.zero_mul]
  by_cases h : 16 ≤ j
  · have : j = 16 := by omega
    subst this
    left
    rw [if_pos (by omega)]
  · right
    simp (disch := omega) only [if_neg h, shr_nI hv]
    rw [show nI (v / 2 ^ j) &&& nI 1 = nI (v / 2 ^ j % 2) from and1_nI (Nat.lt_of_le_of_lt (Nat.div_le_self _ _) (by omega))]
    refine ⟨by omega, (_, _), rfl, ?_⟩
    show (nI (popc v j) + nI (v / 2 ^ j % 2), nI (j + 1)) = (nI (popc v j + v / 2 ^ j % 2), nI (j + 1))
    rw [addI]
theorem bc_256 : ∀ v, v < 256 → fJ6_bitCount_0f7a4 (nI v) = nI (popc v 16) := by decide +kernel
