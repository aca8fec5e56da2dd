/-! the constables: who is told, who stands where -/
theorem ge_nI {N j : Nat} (h : j < N) (hN : N < 2147483648) : ¬ nI N ≤ nI j := by
  rw [nI_leI hN (by omega)]
  omega
theorem ge8 {j : Nat} (h : j < 8) : ¬ (8 : Int32) ≤ nI j := ge_nI h (by decide)
theorem ge16 {j : Nat} (h : j < 16) : ¬ (16 : Int32) ≤ nI j := ge_nI h (by decide)
theorem ge76 {j : Nat} (h : j < 76) : ¬ (76 : Int32) ≤ nI j := ge_nI h (by decide)
theorem isMan10 {f : Nat → Int32} {A : Nat → Nat → Int32} {F : Nat} (hm : ∀ c, c < 8 → A 0 (48 + c) = if F.testBit c then 1 else 0) {c : Nat} (hc : c < 8) : f10_isMan f A (nI c) = some (if F.testBit c then 1 else 0) := by
  unfold f10_isMan
  rw [in_eq]
  rcases within_c (nI c) (A := 0) (B := 7) (a := 0) (b := 7) rfl rfl (by decide) (by decide) with ⟨_, h⟩ | ⟨h, _⟩
  · exact absurd rfl (h c (by omega) (by omega))
  · rw [h, if_neg n10, show (48 : Int32) + nI c = nI (48 + c) from nI_add 48 c, if_neg (nI_in (by omega) (by omega)), gx_nI (by omega), hm c hc]
    by_cases q : F.testBit c = true
    · simp [q]
    · simp [q]
theorem isMan10_no {f : Nat → Int32} {A : Nat → Nat → Int32} {x : Int32} (h : f9_within x 0 7 = 0) : f10_isMan f A x = some 0 := by
  unfold f10_isMan
  rw [in_eq, if_pos h]
theorem isTold6 {fs : Nat → Int32} {As : Nat → Nat → Int32} {F : Nat} (hF : F < 256) (e5 : fs 5 = nI F) {c : Nat} (hc : c < 8) : f6_isTold fs As (nI c) = if F.testBit c then 1 else 0 := by
  unfold f6_isTold
  rcases within_c (nI c) (A := 0) (B := 7) (a := 0) (b := 7) rfl rfl (by decide) (by decide) with ⟨_, h⟩ | ⟨h, _⟩
  · exact absurd rfl (h c (by omega) (by omega))
  · rw [h, if_neg n10, e5, has9 (by omega) (by omega)]
    by_cases q : F.testBit c = true
    · simp [q]
    · simp [q]
theorem isTold6_no {fs : Nat → Int32} {As : Nat → Nat → Int32} {x : Int32} (h : f9_within x 0 7 = 0) : f6_isTold fs As x = 0 := by
  unfold f6_isTold
  rw [if_pos h]
theorem told_c {fB f : Nat → Int32} {AB A : Nat → Nat → Int32} {T : Nat} (hT : T < 65536) (e0 : fB 0 = nI T) (e6 : f 6 = nI T) (x : Int32) :
    (f1_isTold fB AB x = 0 ∧ f10_isTold f A x = 0) ∨ (∃ p, p < 16 ∧ x = nI p ∧ T.testBit p = true ∧ f1_isTold fB AB x = 1 ∧ f10_isTold f A x = 1) := by
  unfold f1_isTold f10_isTold
  rw [in_eq, e0, e6]
  rcases within_c x (A := 0) (B := 15) (a := 0) (b := 15) rfl rfl (by decide) (by decide) with ⟨h, _⟩ | ⟨h, p, _, hp, rfl⟩
  · exact Or.inl ⟨if_pos h, if_pos h⟩
  · rw [h, if_neg n10, if_neg n10, has9 (by omega) (by omega), has10 (by omega) (by omega)]
    by_cases q : T.testBit p = true
    · exact Or.inr ⟨p, by omega, rfl, q, by simp [q], by simp [q]⟩
    · exact Or.inl ⟨by simp [q], by simp [q]⟩
theorem told_p {fB : Nat → Int32} {AB : Nat → Nat → Int32} {T : Nat} (hT : T < 65536) (e0 : fB 0 = nI T) {p : Nat} (hp : p < 16) : f1_isTold fB AB (nI p) = if T.testBit p then 1 else 0 := by
  rcases told_c (fB := fB) (AB := AB) (A := AB) (f := fun _ => nI T) (T := T) hT e0 rfl (nI p) with ⟨h, _⟩ | ⟨p', h1, h2, h3, h4, _⟩
  · rw [h]
    unfold f1_isTold at h
    rcases within_c (nI p) (A := 0) (B := 15) (a := 0) (b := 15) rfl rfl (by decide) (by decide) with ⟨_, h5⟩ | ⟨h5, _⟩
    · exact absurd rfl (h5 p (by omega) (by omega))
    · rw [h5, if_neg n10, e0, has9 (by omega) (by omega)] at h
      by_cases q : T.testBit p = true
      · simp [q] at h
      · simp [q]
  · rw [nI_eq (by omega) (by omega)] at h2
    subst h2
    rw [h4]; simp [h3]
/-- who stands at a place -/
def stands (F : Nat) (w : Nat → Nat) (p : Nat) : Nat := mset (fun c => F.testBit c && w c == p) 8
theorem menAt10 {f : Nat → Int32} {A : Nat → Nat → Int32} {F : Nat} {w : Nat → Nat} (hm : ∀ c, c < 8 → A 0 (48 + c) = if F.testBit c then 1 else 0) (hw : ∀ c, c < 8 → A 0 (56 + c) = nI (w c) ∧ w c < 16) {p : Nat} (hp : p < 16) : f10_menAt f A (nI p) = some (nI (stands F w p)) := by
  unfold f10_menAt
  obtain ⟨t, ht, e⟩ := loop_0N (fun n s i => f10_menAt_l4 f A (nI p) n s i) 8 (fun j s => s = nI (mset (fun c => F.testBit c && w c == p) j)) (fun j _ => nI (mset (fun c => F.testBit c && w c == p) (j + 1))) some (by decide)
    (fun n s hP => by
      show f10_menAt_b4 f A (nI p) _ s (nI 8) = some s
      unfold f10_menAt_b4
      rw [if_pos (by decide)])
    (fun n s j hj hP => ⟨rfl, by
      show f10_menAt_b4 f A (nI p) _ s (nI j) = _
      unfold f10_menAt_b4
      rw [if_neg (ge8 hj), isMan10 hm hj]
      show (if (if F.testBit j then (1 : Int32) else 0) = 0 then _ else _) = _
      rw [hP]
      by_cases q : F.testBit j = true
      · rw [show (56 : Int32) + nI j = nI (56 + j) from nI_add 56 j]
        rw [if_neg (by simp [q]), if_neg (nI_in (by omega) (by omega)), gx_nI (by omega), (hw j hj).1, nI_s]
        by_cases r : w j = p
        · rw [if_pos (by rw [r]), shl1 (by omega), or_nI]
          show _ = f10_menAt_l4 f A (nI p) n (nI (mset _ (j + 1))) _
          simp only [mset, q, r, beq_self_eq_true, Bool.and_self, if_true]
        · rw [if_neg (by rw [nI_eq (by have := (hw j hj).2; omega) (by omega)]; exact r)]
          have r' : (w j == p) = false := by simp [r]
          show _ = f10_menAt_l4 f A (nI p) n (nI (mset _ (j + 1))) _
          simp only [mset, q, r', Bool.and_false, Bool.false_eq_true, if_false]
      · rw [if_pos (by simp [q]), nI_s]
        show _ = f10_menAt_l4 f A (nI p) n (nI (mset _ (j + 1))) _
        simp only [mset, Bool.eq_false_iff.mpr q, Bool.false_and, Bool.false_eq_true, if_false]⟩) (nI 0) rfl
  rw [ht] at e
  exact e
theorem standAt6 {fs : Nat → Int32} {As : Nat → Nat → Int32} {F : Nat} {w : Nat → Nat} (hF : F < 256) (e5 : fs 5 = nI F) (hw : ∀ c, c < 8 → As 3 c = nI (w c) ∧ w c < 16) {p : Nat} (hp : p < 16) : f6_standAt fs As (nI p) = some (nI (stands F w p)) := by
  unfold f6_standAt
  obtain ⟨t, ht, e⟩ := loop_0N (fun n s i => f6_standAt_l4 fs As (nI p) n s i) 8 (fun j s => s = nI (mset (fun c => F.testBit c && w c == p) j)) (fun j _ => nI (mset (fun c => F.testBit c && w c == p) (j + 1))) some (by decide)
    (fun n s hP => by
      show f6_standAt_b4 fs As (nI p) _ s (nI 8) = some s
      unfold f6_standAt_b4
      rw [if_pos (by decide)])
    (fun n s j hj hP => ⟨rfl, by
      show f6_standAt_b4 fs As (nI p) _ s (nI j) = _
      unfold f6_standAt_b4
      rw [if_neg (ge8 hj), isTold6 hF e5 hj, hP, at_nI hj (by decide), (hw j hj).1, nI_s]
      by_cases q : F.testBit j = true
      · rw [if_neg (by simp [q])]
        by_cases r : w j = p
        · rw [if_pos (by rw [r]), shl1 (by omega), or_nI]
          show _ = f6_standAt_l4 fs As (nI p) n (nI (mset _ (j + 1))) _
          simp only [mset, q, r, beq_self_eq_true, Bool.and_self, if_true]
        · rw [if_neg (by rw [nI_eq (by have := (hw j hj).2; omega) (by omega)]; exact r)]
          have r' : (w j == p) = false := by simp [r]
          show _ = f6_standAt_l4 fs As (nI p) n (nI (mset _ (j + 1))) _
          simp only [mset, q, r', Bool.and_false, Bool.false_eq_true, if_false]
      · rw [if_pos (by simp [q])]
        show _ = f6_standAt_l4 fs As (nI p) n (nI (mset _ (j + 1))) _
        simp only [mset, Bool.eq_false_iff.mpr q, Bool.false_and, Bool.false_eq_true, if_false]⟩) (nI 0) rfl
  rw [ht] at e
  exact e
