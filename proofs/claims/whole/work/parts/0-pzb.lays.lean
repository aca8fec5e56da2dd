set_option maxHeartbeats 400000 in
theorem lays_c {g : Nat → Int32} {A : Nat → Nat → Int32} {nx : Nat → Nat} {s : Nat} (hs : s < 16) (hn : ∀ p, p < 16 → A 3 p = nI (nx p) ∧ nx p < 65536) : ∃ A' many asg f ln, f10_laysSteps g A (nI s) = some A' ∧ BQ nx s many 0 many asg f ln ∧ RWS nx s many 0 asg f ln (A' 47) ∧ (∀ q, q < 16 → A' 46 q = if asg q then nI (f q) else -1) ∧ ∀ j, j ≠ 45 → j ≠ 46 → j ≠ 47 → A' j = A j := by
  have queue : ∀ A1 : Nat → Nat → Int32, (∀ q, q < 16 → A1 46 q = if q = s then 0 else -1) → (∀ q, q < 16 → A1 47 q = if q = s then 1 else 0) → A1 45 0 = nI s → (∀ j, j ≠ 45 → j ≠ 46 → j ≠ 47 → A1 j = A j) → ∃ A' many asg f ln, f10_laysSteps_l53 g (nI s) NF A1 1 0 = some A' ∧ BQ nx s many 0 many asg f ln ∧ RWS nx s many 0 asg f ln (A' 47) ∧ (∀ q, q < 16 → A' 46 q = if asg q then nI (f q) else -1) ∧ ∀ j, j ≠ 45 → j ≠ 46 → j ≠ 47 → A' j = A j := by
    intro A1 h46 h47 h45 hfr
    refine loop_one (fun n (x : (Nat → Nat → Int32) × Int32 × Int32) => f10_laysSteps_l53 g (nI s) n x.1 x.2.1 x.2.2) 16
      (fun k x => ∃ A2 many asg f ln, x = (A2, nI many, nI k) ∧ BQ nx s k 0 many asg f ln ∧ RWS nx s k 0 asg f ln (A2 47) ∧ (∀ q, q < 16 → A2 46 q = if asg q then nI (f q) else -1) ∧ (∀ i, i < many → A2 45 i = nI (ln i)) ∧ ∀ j, j ≠ 45 → j ≠ 46 → j ≠ 47 → A2 j = A j)
      (fun a => ∃ A' many asg f ln, a = some A' ∧ BQ nx s many 0 many asg f ln ∧ RWS nx s many 0 asg f ln (A' 47) ∧ (∀ q, q < 16 → A' 46 q = if asg q then nI (f q) else -1) ∧ ∀ j, j ≠ 45 → j ≠ 46 → j ≠ 47 → A' j = A j) (by decide) ?_ (A1, 1, 0) ?_
    · rintro n k x hk ⟨A2, many, asg, f, ln, rfl, hB, hR, r46, r45, rfr⟩
      have hm := hB.le
      have hkm := hB.2.1
      have e53 : ∀ n A2 m i, f10_laysSteps_l53 g (nI s) (n + 1) A2 m i = f10_laysSteps_b53 g (nI s) (f10_laysSteps_l53 g (nI s) n) A2 m i := fun _ _ _ _ => rfl
      simp only [e53]
      generalize f10_laysSteps_l53 g (nI s) n = Kn
      unfold f10_laysSteps_b53
      by_cases hkk : many ≤ k
      · left
        have : many = k := by omega
        subst this
        rw [if_pos (by rw [leI (by omega) (by omega)]; omega)]
        exact ⟨A2, many, asg, f, ln, rfl, hB, hR, r46, rfr⟩
      right
      have hlt : k < many := by omega
      refine ⟨by omega, ?_⟩
      rw [if_neg (by rw [leI (by omega) (by omega)]; omega), if_neg (nI_in (by omega) (by decide)), gx_nI (by omega), r45 k hlt]
      obtain ⟨l1, l2, l3⟩ := hB.2.2.2.1 k hlt
      have inner : ∃ A3 many asg f ln', f10_laysSteps_l69 g (nI s) Kn NF A2 (nI (many - 0)) (nI k) (nI (ln k)) 0 = f10_laysSteps_l69 g (nI s) Kn NF A2 (nI (many - 0)) (nI k) (nI (ln k)) 0 ∧ A3 = A2 ∧ asg = asg ∧ f = f ∧ ln' = ln := ⟨A2, many, asg, f, ln, rfl, rfl, rfl, rfl, rfl⟩
      clear inner
      generalize hat : ln k = at_ at l1 l2 l3
      have inner : ∃ A3 many3 asg3 f3 ln3, f10_laysSteps_l69 g (nI s) Kn NF A2 (nI many) (nI k) (nI at_) 0 = Kn A3 (nI many3) (nI (k + 1)) ∧ BQ nx s (k + 1) 0 many3 asg3 f3 ln3 ∧ RWS nx s (k + 1) 0 asg3 f3 ln3 (A3 47) ∧ (∀ q, q < 16 → A3 46 q = if asg3 q then nI (f3 q) else -1) ∧ (∀ i, i < many3 → A3 45 i = nI (ln3 i)) ∧ ∀ j, j ≠ 45 → j ≠ 46 → j ≠ 47 → A3 j = A j := by
        refine loop_one (fun n (x : (Nat → Nat → Int32) × Int32 × Int32) => f10_laysSteps_l69 g (nI s) Kn n x.1 x.2.1 (nI k) (nI at_) x.2.2) 16
          (fun j x => ∃ A3 many3 asg3 f3 ln3, x = (A3, nI many3, nI j) ∧ k < many3 ∧ ln3 k = at_ ∧ BQ nx s k j many3 asg3 f3 ln3 ∧ RWS nx s k j asg3 f3 ln3 (A3 47) ∧ (∀ q, q < 16 → A3 46 q = if asg3 q then nI (f3 q) else -1) ∧ (∀ i, i < many3 → A3 45 i = nI (ln3 i)) ∧ ∀ j, j ≠ 45 → j ≠ 46 → j ≠ 47 → A3 j = A j)
          (fun a => ∃ A3 many3 asg3 f3 ln3, a = Kn A3 (nI many3) (nI (k + 1)) ∧ BQ nx s (k + 1) 0 many3 asg3 f3 ln3 ∧ RWS nx s (k + 1) 0 asg3 f3 ln3 (A3 47) ∧ (∀ q, q < 16 → A3 46 q = if asg3 q then nI (f3 q) else -1) ∧ (∀ i, i < many3 → A3 45 i = nI (ln3 i)) ∧ ∀ j, j ≠ 45 → j ≠ 46 → j ≠ 47 → A3 j = A j) (by decide) ?_ (A2, nI many, 0) ⟨A2, many, asg, f, ln, rfl, hlt, hat, hB, hR, r46, r45, rfr⟩
        rintro n j x hj ⟨A3, many3, asg3, f3, ln3, rfl, hlt3, hat3, hB3, hR3, s46, s45, sfr⟩
        have hm3 := hB3.le
        have e69 : ∀ n A2 m i, f10_laysSteps_l69 g (nI s) Kn (n + 1) A2 m (nI k) (nI at_) i = f10_laysSteps_b69 g (nI s) Kn (f10_laysSteps_l69 g (nI s) Kn n) A2 m (nI k) (nI at_) i := fun _ _ _ _ => rfl
        simp only [e69]
        by_cases h16 : 16 ≤ j
        · left
          have : j = 16 := by omega
          subst this
          unfold f10_laysSteps_b69
          rw [if_pos (by decide), nI_s]
          exact ⟨A3, many3, asg3, f3, ln3, rfl, hB3.next hlt3, hR3.next, s46, s45, sfr⟩
        right
        have hj16 : j < 16 := by omega
        refine ⟨hj16, ?_⟩
        obtain ⟨c1, c2, c3⟩ := hB3.2.2.2.1 k hlt3
        rw [hat3] at c1 c2 c3
        have n3 : A3 3 = A 3 := sfr 3 (by decide) (by decide) (by decide)
        obtain ⟨n1, n2⟩ := hn at_ c1
        have v46 : A3 46 at_ = nI (f3 at_) := by rw [s46 at_ c1, if_pos c2]
        generalize f10_laysSteps_l69 g (nI s) Kn n = Jn
        -- rows are added
        have add : ∀ (A4 : Nat → Nat → Int32) (m4 : Nat) (asg4 : Nat → Bool) (f4 ln4 : Nat → Nat), k < m4 → ln4 k = at_ → BQ nx s k j m4 asg4 f4 ln4 → RWS nx s k j asg4 f4 ln4 (A4 47) → (∀ q, q < 16 → A4 46 q = if asg4 q then nI (f4 q) else -1) → (∀ i, i < m4 → A4 45 i = nI (ln4 i)) → (∀ j, j ≠ 45 → j ≠ 46 → j ≠ 47 → A4 j = A j) → asg4 j = true → (nx at_).testBit j = true → ∃ (x : (Nat → Nat → Int32) × Int32 × Int32), f10_laysSteps_b133 g (nI s) Jn A4 (nI m4) (nI k) (nI at_) (nI j) = Jn x.1 x.2.1 (nI k) (nI at_) x.2.2 ∧ ∃ A3 many3 asg3 f3 ln3, x = (A3, nI many3, nI (j + 1)) ∧ k < many3 ∧ ln3 k = at_ ∧ BQ nx s k (j + 1) many3 asg3 f3 ln3 ∧ RWS nx s k (j + 1) asg3 f3 ln3 (A3 47) ∧ (∀ q, q < 16 → A3 46 q = if asg3 q then nI (f3 q) else -1) ∧ (∀ i, i < many3 → A3 45 i = nI (ln3 i)) ∧ ∀ j, j ≠ 45 → j ≠ 46 → j ≠ 47 → A3 j = A j := by
          intro A4 m4 asg4 f4 ln4 k4 hat4 hB4 hR4 q46 q45 qfr hs4 ha4
          obtain ⟨d1, d2, d3⟩ := hB4.2.2.2.1 k k4
          have hm4 := hB4.le
          obtain ⟨i0, i1, i2⟩ := hB4.2.2.2.2.1 j hj16 hs4
          have fj := (hB4.2.2.2.1 i0 i1).2.2
          rw [i2] at fj
          have u1 : A4 46 j = nI (f4 j) := by rw [q46 j hj16, if_pos hs4]
          have u2 : A4 46 at_ = nI (f4 at_) := by rw [q46 at_ c1, if_pos (by rw [← hat4]; exact d2)]
          rw [hat4] at d3
          have ha4' : (nx (ln4 k)).testBit j = true := by rw [hat4]; exact ha4
          unfold f10_laysSteps_b133
          by_cases hf : f4 at_ + 1 = f4 j
          · simp (maxSteps := 3000000) (disch := omega) only [litI, letv, eqI, leI, ltI, addI, mulI, subI, clI, addneg, at_nI, put_nI, nI_s, orI, shl1I, ifb0, ifb1, Option.bind_some, gx, ux, Nat.add_zero, Nat.zero_add, Nat.not_lt_zero, false_or, or_false, Nat.mul_zero, Nat.zero_mul, if_neg, u1, u2, hf, if_true]
            refine ⟨(updA A4 47 (upd (A4 47) j (A4 47 j + A4 47 at_)), nI m4, nI (j + 1)), rfl, updA A4 47 (upd (A4 47) j (A4 47 j + A4 47 at_)), m4, asg4, f4, ln4, rfl, k4, hat4, hB4.skip hj16 k4 (fun _ => hs4), ?_, ?_, ?_, fun i a b c => (updA_n c).trans (qfr i a b c)⟩
            · rw [updA_s]
              have := hR4.add hB4 hj16 k4 ha4' hs4 (by rw [hat4]; exact hf)
              rw [hat4] at this
              exact this
            · intro q hq
              rw [updA_n (by decide)]; exact q46 q hq
            · intro i hi
              rw [updA_n (by decide)]; exact q45 i hi
          · simp (maxSteps := 3000000) (disch := omega) only [litI, letv, eqI, leI, ltI, addI, mulI, subI, clI, addneg, at_nI, put_nI, nI_s, orI, shl1I, ifb0, ifb1, Option.bind_some, gx, ux, Nat.add_zero, Nat.zero_add, Nat.not_lt_zero, false_or, or_false, Nat.mul_zero, Nat.zero_mul, if_neg, u1, u2]
            exact ⟨(A4, nI m4, nI (j + 1)), rfl, A4, m4, asg4, f4, ln4, rfl, k4, hat4, hB4.skip hj16 k4 (fun _ => hs4), hR4.skip (Or.inr (by rw [hat4]; exact hf)), q46, q45, qfr⟩
        unfold f10_laysSteps_b69
        rw [if_neg (ge16 hj16), if_neg (nI_in (by omega) (by decide)), gx_nI (by omega), n3, n1, has10 (by omega) (by omega)]
        by_cases ha : (nx at_).testBit j = true
        · rw [if_pos ha, if_neg n10, if_neg (nI_in (by omega) (by decide)), gx_nI (by omega), s46 j hj16]
          by_cases hs4 : asg3 j = true
          · obtain ⟨i0, i1, i2⟩ := hB3.2.2.2.2.1 j hj16 hs4
            have fj := (hB3.2.2.2.1 i0 i1).2.2
            rw [i2] at fj
            rw [if_pos hs4, if_neg (show ¬ nI (f3 j) = -1 by rw [show (-1 : Int32) = -nI 1 from rfl, eq_neg (by omega) (by omega) (by omega)]; exact not_false)]
            exact add A3 many3 asg3 f3 ln3 hlt3 hat3 hB3 hR3 s46 s45 sfr hs4 ha
          · have hs4' : asg3 j = false := Bool.eq_false_iff.mpr hs4
            obtain ⟨m16, hB5⟩ := hB3.new hj16 hlt3 (by rw [hat3]; exact ha) hs4'
            have hR5 := hR3.new hB3 hj16 hlt3 hs4'
            rw [hat3] at hB5 hR5
            have nj : at_ ≠ j := fun e => hs4 (by rw [← e]; exact c2)
            rw [if_neg hs4, if_pos rfl, if_neg (nI_in (by omega) (by decide)), if_neg (nI_in (by omega) (by decide))]
            simp only [letv]
            rw [if_neg (nI_in (show many3 < 16 by omega) (by decide)), gx_nI (by omega), ux_nI (by omega), v46, nI_s, updA_n (show (45 : Nat) ≠ 46 by decide), ux_nI (by omega), nI_s]
            refine add (updA (updA A3 46 (upd (A3 46) j (nI (f3 at_ + 1)))) 45 (upd (A3 45) many3 (nI j))) (many3 + 1) _ _ _ (by omega) (by rw [if_neg (by omega)]; exact hat3) hB5 ?_ ?_ ?_ ?_ (if_pos rfl) ha
            · rw [updA_n (by decide), updA_n (by decide)]; exact hR5
            · intro q hq
              rw [updA_n (by decide), updA_s]
              by_cases e : q = j
              · subst e; rw [upd_s, if_pos rfl, if_pos rfl, if_pos rfl]
              · rw [upd_n e, if_neg e, if_neg e]; exact s46 q hq
            · intro i hi
              rw [updA_s]
              by_cases e : i = many3
              · subst e; rw [upd_s, if_pos rfl]
              · rw [upd_n e, if_neg e]; exact s45 i (by omega)
            · intro i a b c
              rw [updA_n a, updA_n b]; exact sfr i a b c
        · rw [if_neg ha, if_pos rfl, nI_s]
          exact ⟨(A3, nI many3, nI (j + 1)), rfl, A3, many3, asg3, f3, ln3, rfl, hlt3, hat3, hB3.skip hj16 hlt3 (fun h => by rw [hat3] at h; exact absurd h ha), hR3.skip (Or.inl (by rw [hat3]; exact Bool.eq_false_iff.mpr ha)), s46, s45, sfr⟩
      obtain ⟨A3, many3, asg3, f3, ln3, i1, i2, i3, i4, i5, i6⟩ := inner
      exact ⟨(A3, nI many3, nI (k + 1)), i1, A3, many3, asg3, f3, ln3, rfl, i2, i3, i4, i5, i6⟩
    · refine ⟨A1, 1, fun q => q == s, fun _ => 0, fun _ => s, rfl, ⟨by omega, by omega, ?_, fun i hi => ⟨hs, by simp, Nat.zero_le _⟩, fun q hq h => ⟨0, by omega, (beq_iff_eq.mp h).symm⟩, fun i i' h1 h2 _ => by omega, ⟨by simp, rfl⟩, fun q hq h hne => absurd (beq_iff_eq.mp h) hne, fun _ _ _ _ => Nat.le_refl _, fun _ _ _ => Nat.zero_le _, fun i hi => absurd hi (by omega), fun _ q hq => absurd hq (by omega)⟩, ?_, ?_, ?_, hfr⟩
      · have : cnt (fun q => q == s) 16 = cnt (fun _ => false) 16 + 1 := cnt_set (q := s) hs rfl (by simp) (fun i hi hne => by simp [hne])
        rw [this]; rfl
      · intro q hq
        rw [h47 q hq]
        have z : ∀ N, isum (fun p => if cnd nx 0 0 (fun q => q == s) (fun _ => 0) (fun _ => s) p q then A1 47 p else 0) N = 0 := fun N => isum_zero (fun p hp => by
          have : cnd nx 0 0 (fun q => q == s) (fun _ => 0) (fun _ => s) p q = false := by simp [cnd]
          rw [this]; rfl)
        rw [z, Int32.add_zero]
      · intro q hq
        rw [h46 q hq]
        by_cases e : q = s
        · subst e; simp; rfl
        · simp [e]
      · intro i hi
        have : i = 0 := by omega
        subst this; exact h45
  unfold f10_laysSteps
  refine loop_one (fun n (x : (Nat → Nat → Int32) × Int32) => f10_laysSteps_l2 g (nI s) n x.1 x.2) 16
    (fun k x => ∃ A2, x = (A2, nI k) ∧ (∀ q, q < k → A2 46 q = -1) ∧ (∀ q, q < k → A2 47 q = 0) ∧ ∀ j, j ≠ 45 → j ≠ 46 → j ≠ 47 → A2 j = A j)
    (fun a => ∃ A' many asg f ln, a = some A' ∧ BQ nx s many 0 many asg f ln ∧ RWS nx s many 0 asg f ln (A' 47) ∧ (∀ q, q < 16 → A' 46 q = if asg q then nI (f q) else -1) ∧ ∀ j, j ≠ 45 → j ≠ 46 → j ≠ 47 → A' j = A j) (by decide) ?_ (A, 0) ⟨A, rfl, fun q hq => absurd hq (by omega), fun q hq => absurd hq (by omega), fun _ _ _ _ => rfl⟩
  rintro n k x hk ⟨A2, rfl, p1, p2, p3⟩
  have e2 : ∀ n A2 i, f10_laysSteps_l2 g (nI s) (n + 1) A2 i = f10_laysSteps_b2 g (nI s) (f10_laysSteps_l2 g (nI s) n) A2 i := fun _ _ _ => rfl
  simp only [e2]
  unfold f10_laysSteps_b2
  by_cases h16 : 16 ≤ k
  · left
    have : k = 16 := by omega
    subst this
    rw [if_pos (by decide), if_neg (nI_in (by omega) (by decide))]
    simp only [letv]
    rw [if_neg (nI_in (show s < 16 by omega) (by decide)), ux_nI (by omega), ux_nI (by omega), updA_n (show (47 : Nat) ≠ 46 by decide), updA_n (show (45 : Nat) ≠ 47 by decide), updA_n (show (45 : Nat) ≠ 46 by decide)]
    refine queue _ (fun q hq => ?_) (fun q hq => ?_) ?_ (fun j a b c => ?_)
    · rw [updA_n (by decide), updA_n (by decide), updA_s]
      by_cases e : q = s
      · subst e; rw [upd_s, if_pos rfl]
      · rw [upd_n e, if_neg e]; exact p1 q hq
    · rw [updA_n (by decide), updA_s]
      by_cases e : q = s
      · subst e; rw [upd_s, if_pos rfl]
      · rw [upd_n e, if_neg e]; exact p2 q hq
    · rw [updA_s]; rfl
    · rw [updA_n a, updA_n c, updA_n b]; exact p3 j a b c
  right
  refine ⟨by omega, ?_⟩
  simp (maxSteps := 3000000) (disch := omega) only [litI, letv, eqI, leI, ltI, addI, mulI, subI, clI, addneg, at_nI, put_nI, nI_s, orI, shl1I, ifb0, ifb1, Option.bind_some, gx, ux, Nat.add_zero, Nat.zero_add, Nat.not_lt_zero, false_or, or_false, Nat.mul_zero, Nat.zero_mul, if_neg, updA_n]
  refine ⟨(updA (updA A2 46 (upd (A2 46) k (-nI 1))) 47 (upd (A2 47) k (nI 0)), nI (k + 1)), rfl, _, rfl, fun q hq => ?_, fun q hq => ?_, fun j a b c => ?_⟩
  · show updA (updA A2 46 (upd (A2 46) k (-nI 1))) 47 (upd (A2 47) k (nI 0)) 46 q = -1
    rw [updA_n (by decide), updA_s]
    by_cases e : q = k
    · subst e; exact upd_s
    · rw [upd_n e]; exact p1 q (by omega)
  · show updA (updA A2 46 (upd (A2 46) k (-nI 1))) 47 (upd (A2 47) k (nI 0)) 47 q = 0
    rw [updA_s]
    by_cases e : q = k
    · subst e; exact upd_s
    · rw [upd_n e]; exact p2 q (by omega)
  · show updA (updA A2 46 (upd (A2 46) k (-nI 1))) 47 (upd (A2 47) k (nI 0)) j = A j
    rw [updA_n c, updA_n b]; exact p3 j a b c
