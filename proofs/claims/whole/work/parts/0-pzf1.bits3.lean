theorem sw_0 : ∀ a, a < 16 → ∀ b, b < 256 → sw (256 * (a + 0) + b) = popc (256 * (a + 0) + b) 16 := by decide +kernel
theorem sw_1 : ∀ a, a < 16 → ∀ b, b < 256 → sw (256 * (a + 16) + b) = popc (256 * (a + 16) + b) 16 := by decide +kernel
theorem sw_2 : ∀ a, a < 16 → ∀ b, b < 256 → sw (256 * (a + 32) + b) = popc (256 * (a + 32) + b) 16 := by decide +kernel
theorem sw_3 : ∀ a, a < 16 → ∀ b, b < 256 → sw (256 * (a + 48) + b) = popc (256 * (a + 48) + b) 16 := by decide +kernel
theorem sw_4 : ∀ a, a < 16 → ∀ b, b < 256 → sw (256 * (a + 64) + b) = popc (256 * (a + 64) + b) 16 := by decide +kernel
theorem sw_5 : ∀ a, a < 16 → ∀ b, b < 256 → sw (256 * (a + 80) + b) = popc (256 * (a + 80) + b) 16 := by decide +kernel
theorem sw_6 : ∀ a, a < 16 → ∀ b, b < 256 → sw (256 * (a + 96) + b) = popc (256 * (a + 96) + b) 16 := by decide +kernel
theorem sw_7 : ∀ a, a < 16 → ∀ b, b < 256 → sw (256 * (a + 112) + b) = popc (256 * (a + 112) + b) 16 := by decide +kernel
theorem sw_8 : ∀ a, a < 16 → ∀ b, b < 256 → sw (256 * (a + 128) + b) = popc (256 * (a + 128) + b) 16 := by decide +kernel
theorem sw_9 : ∀ a, a < 16 → ∀ b, b < 256 → sw (256 * (a + 144) + b) = popc (256 * (a + 144) + b) 16 := by decide +kernel
theorem sw_10 : ∀ a, a < 16 → ∀ b, b < 256 → sw (256 * (a + 160) + b) = popc (256 * (a + 160) + b) 16 := by decide +kernel
theorem sw_11 : ∀ a, a < 16 → ∀ b, b < 256 → sw (256 * (a + 176) + b) = popc (256 * (a + 176) + b) 16 := by decide +kernel
theorem sw_12 : ∀ a, a < 16 → ∀ b, b < 256 → sw (256 * (a + 192) + b) = popc (256 * (a + 192) + b) 16 := by decide +kernel
theorem sw_13 : ∀ a, a < 16 → ∀ b, b < 256 → sw (256 * (a + 208) + b) = popc (256 * (a + 208) + b) 16 := by decide +kernel
theorem sw_14 : ∀ a, a < 16 → ∀ b, b < 256 → sw (256 * (a + 224) + b) = popc (256 * (a + 224) + b) 16 := by decide +kernel
theorem sw_15 : ∀ a, a < 16 → ∀ b, b < 256 → sw (256 * (a + 240) + b) = popc (256 * (a + 240) + b) 16 := by decide +kernel
theorem bc_all {v : Nat} (hv : v < 65536) : fJ6_bitCount_0f7a4 (nI v) = nI (popc v 16) := by
  rw [sw_c hv]
  refine congrArg nI ?_
  have hb : v % 256 < 256 := Nat.mod_lt _ (by decide)
  have hd : 256 * (v / 256) + v % 256 = v := Nat.div_add_mod v 256
  generalize v % 256 = b at hb hd
  generalize v / 256 = a at hd
  rw [← hd] at hv ⊢
  have ha : a < 256 := by omega
  clear hd hv
  rcases (show a / 16 = 0 ∨ a / 16 = 1 ∨ a / 16 = 2 ∨ a / 16 = 3 ∨ a / 16 = 4 ∨ a / 16 = 5 ∨ a / 16 = 6 ∨ a / 16 = 7 ∨ a / 16 = 8 ∨ a / 16 = 9 ∨ a / 16 = 10 ∨ a / 16 = 11 ∨ a / 16 = 12 ∨ a / 16 = 13 ∨ a / 16 = 14 ∨ a / 16 = 15 by omega) with h | h | h | h | h | h | h | h | h | h | h | h | h | h | h | h
  · have := sw_0 (a - 0) (by omega) b hb
    rw [show a - 0 + 0 = a by omega] at this
    exact this
  · have := sw_1 (a - 16) (by omega) b hb
    rw [show a - 16 + 16 = a by omega] at this
    exact this
  · have := sw_2 (a - 32) (by omega) b hb
    rw [show a - 32 + 32 = a by omega] at this
    exact this
  · have := sw_3 (a - 48) (by omega) b hb
    rw [show a - 48 + 48 = a by omega] at this
    exact this
  · have := sw_4 (a - 64) (by omega) b hb
    rw [show a - 64 + 64 = a by omega] at this
    exact this
  · have := sw_5 (a - 80) (by omega) b hb
    rw [show a - 80 + 80 = a by omega] at this
    exact this
  · have := sw_6 (a - 96) (by omega) b hb
    rw [show a - 96 + 96 = a by omega] at this
    exact this
  · have := sw_7 (a - 112) (by omega) b hb
    rw [show a - 112 + 112 = a by omega] at this
    exact this
  · have := sw_8 (a - 128) (by omega) b hb
    rw [show a - 128 + 128 = a by omega] at this
    exact this
  · have := sw_9 (a - 144) (by omega) b hb
    rw [show a - 144 + 144 = a by omega] at this
    exact this
  · have := sw_10 (a - 160) (by omega) b hb
    rw [show a - 160 + 160 = a by omega] at this
    exact this
  · have := sw_11 (a - 176) (by omega) b hb
    rw [show a - 176 + 176 = a by omega] at this
    exact this
  · have := sw_12 (a - 192) (by omega) b hb
    rw [show a - 192 + 192 = a by omega] at this
    exact this
  · have := sw_13 (a - 208) (by omega) b hb
    rw [show a - 208 + 208 = a by omega] at this
    exact this
  · have := sw_14 (a - 224) (by omega) b hb
    rw [show a - 224 + 224 = a by omega] at this
    exact this
  · have := sw_15 (a - 240) (by omega) b hb
    rw [show a - 240 + 240 = a by omega] at this
    exact this
