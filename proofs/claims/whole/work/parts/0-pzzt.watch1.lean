/-! WATCHES: colourings, and how the class looks for one -/
def FLC (nx M : Nat → Nat) (L w : Nat) (c : Nat → Nat) : Prop := (∀ p, p < 16 → L.testBit p = true → c p < w ∧ ∀ q, q < 16 → (M (c p)).testBit q = true → ¬ (nx p).testBit q = true) ∧ ∀ p q, p < 16 → q < 16 → L.testBit p = true → L.testBit q = true → (nx p).testBit q = true → c p ≠ c q
def PFX (M : Nat → Nat) (w : Nat) : Prop := ∀ a b, a < b → b < w → M a = 0 → M b = 0
def swp (c : Nat → Nat) (a b : Nat) : Nat → Nat := fun q => if c q = a then b else if c q = b then a else c q
theorem swp_inj {c : Nat → Nat} {a b p q : Nat} (h : swp c a b p = swp c a b q) : c p = c q := by
  unfold swp at h
  by_cases h1 : c p = a
  · rw [if_pos h1] at h
    by_cases h2 : c q = a
    · omega
    · rw [if_neg h2] at h
      by_cases h3 : c q = b
      · rw [if_pos h3] at h; omega
      · rw [if_neg h3] at h; omega
  · rw [if_neg h1] at h
    by_cases h2 : c q = a
    · rw [if_pos h2] at h
      by_cases h3 : c p = b
      · rw [if_pos h3] at h; omega
      · rw [if_neg h3] at h; omega
    · rw [if_neg h2] at h
      by_cases h3 : c p = b
      · rw [if_pos h3] at h
        by_cases h4 : c q = b
        · omega
        · rw [if_neg h4] at h; omega
      · rw [if_neg h3] at h
        by_cases h4 : c q = b
        · rw [if_pos h4] at h; omega
        · rw [if_neg h4] at h; exact h
theorem swp_lt {c : Nat → Nat} {a b q w : Nat} (ha : a < w) (hb : b < w) (h : c q < w) : swp c a b q < w := by
  unfold swp
  split
  · exact hb
  · split
    · exact ha
    · exact h
theorem swp_b {c : Nat → Nat} {a b q : Nat} (h : c q = b) : swp c a b q = a := by
  unfold swp
  by_cases e : c q = a
  · rw [if_pos e]; omega
  · rw [if_neg e, if_pos h]
theorem FLC.swap {nx M : Nat → Nat} {L w a b : Nat} {c : Nat → Nat} (h : FLC nx M L w c) (ha : a < w) (hb : b < w) (Ma : M a = 0) (Mb : M b = 0) : FLC nx M L w (swp c a b) := by
  refine ⟨fun p hp hL => ⟨swp_lt ha hb (h.1 p hp hL).1, fun q hq hm => ?_⟩, fun p q hp hq hLp hLq hn e => h.2 p q hp hq hLp hLq hn (swp_inj e)⟩
  unfold swp at hm
  by_cases h1 : c p = a
  · rw [if_pos h1, Mb, Nat.zero_testBit] at hm
    exact absurd hm (by decide)
  · rw [if_neg h1] at hm
    by_cases h2 : c p = b
    · rw [if_pos h2, Ma, Nat.zero_testBit] at hm
      exact absurd hm (by decide)
    · rw [if_neg h2] at hm
      exact (h.1 p hp hL).2 q hq hm
theorem FLC.into {nx M : Nat → Nat} {L w p : Nat} {c : Nat → Nat} (hsym : ∀ p q, p < 16 → q < 16 → (nx p).testBit q = (nx q).testBit p) (hLt : L < 65536) (hp : p < 16) (hL : L.testBit p = true) (h : FLC nx M L w c) : FLC nx (pt M (c p) (M (c p) ||| 2 ^ p)) (cut1 L p) w c := by
  refine ⟨fun q hq hb => ?_, fun q r hq hr hbq hbr => ?_⟩
  · rw [cut1_bit hLt, Bool.and_eq_true, Bool.not_eq_true', beq_eq_false_iff_ne] at hb
    refine ⟨(h.1 q hq hb.1).1, fun r hr hm hn => ?_⟩
    by_cases e : c q = c p
    · rw [e, pt_s, or_bit', Bool.or_eq_true, beq_iff_eq, ← e] at hm
      rcases hm with hm | rfl
      · exact (h.1 q hq hb.1).2 r hr hm hn
      · exact h.2 q r hq hr hb.1 hL hn e
    · rw [pt_n e] at hm
      exact (h.1 q hq hb.1).2 r hr hm hn
  · rw [cut1_bit hLt, Bool.and_eq_true] at hbq hbr
    exact h.2 q r hq hr hbq.1 hbr.1
theorem FLC.out {nx M : Nat → Nat} {L w p j : Nat} {c : Nat → Nat} (hsym : ∀ p q, p < 16 → q < 16 → (nx p).testBit q = (nx q).testBit p) (hirr : ∀ p, p < 16 → (nx p).testBit p = false) (hLt : L < 65536) (hp : p < 16) (hj : j < w) (hc : ∀ q, q < 16 → (M j).testBit q = true → ¬ (nx p).testBit q = true) (h : FLC nx (pt M j (M j ||| 2 ^ p)) (cut1 L p) w c) : FLC nx M L w (pt c p j) := by
  have inL : ∀ q, q ≠ p → L.testBit q = true → (cut1 L p).testBit q = true := fun q h1 h2 => by
    rw [cut1_bit hLt, h2]; simp [h1]
  have sub : ∀ a r, (M a).testBit r = true → (pt M j (M j ||| 2 ^ p) a).testBit r = true := fun a r hr => by
    by_cases e : a = j
    · subst e; rw [pt_s, or_bit', hr]; rfl
    · rw [pt_n e]; exact hr
  -- none of the others with j is next to p
  have far : ∀ q, q < 16 → q ≠ p → L.testBit q = true → c q = j → ¬ (nx q).testBit p = true := fun q hq h1 h2 e => by
    refine (h.1 q hq (inL q h1 h2)).2 p hp ?_
    rw [e, pt_s, or_bit']; simp
  refine ⟨fun q hq hb => ?_, fun q r hq hr hbq hbr hn => ?_⟩
  · by_cases e : q = p
    · subst e
      rw [pt_s]
      exact ⟨hj, hc⟩
    · rw [pt_n e]
      have := h.1 q hq (inL q e hb)
      exact ⟨this.1, fun r hr hm => this.2 r hr (sub _ r hm)⟩
  · by_cases e : q = p
    · subst e
      rw [pt_s]
      by_cases e2 : r = q
      · subst e2; rw [hirr r hr] at hn; exact absurd hn (by decide)
      · rw [pt_n e2]
        intro e3
        refine far r hr e2 hbr e3.symm ?_
        rw [← hsym q r hq hr]; exact hn
    · by_cases e2 : r = p
      · subst e2
        rw [pt_s, pt_n e]
        intro e3
        exact far q hq e hbq e3 hn
      · rw [pt_n e, pt_n e2]
        exact h.2 q r hq hr (inL q e hbq) (inL r e2 hbr) hn
theorem free_c (xs : Nat → Int32) (y : Int32) {w : Nat} (hw : w ≤ 16) : ∃ r, f4_freeWatches 16 xs y (nI w) = some r := by
  unfold f4_freeWatches
  refine loop_one (fun n (x : Int32 × Int32) => f4_freeWatches_l5 16 xs y (nI w) n x.1 x.2) w (fun j x => x.2 = nI j) (fun P => ∃ r, P = some r) (by omega) ?_ (0, 0) rfl
  rintro n j ⟨l3, x⟩ hj rfl
  have ea : ∀ n x i, f4_freeWatches_l5 16 xs y (nI w) (n + 1) x i = f4_freeWatches_b5 16 xs y (nI w) (f4_freeWatches_l5 16 xs y (nI w) n) x i := fun _ _ _ => rfl
  simp only [ea]
  generalize f4_freeWatches_l5 16 xs y (nI w) n = Kn
  unfold f4_freeWatches_b5
  by_cases h : w ≤ j
  · left
    rw [if_pos (by rw [leI (by omega) (by omega)]; exact h)]
    exact ⟨_, rfl⟩
  · right
    rw [if_neg (by rw [leI (by omega) (by omega)]; exact h), nI_s]
    refine ⟨by omega, ?_⟩
    by_cases e : (f9_at 16 xs (nI j) &&& y) = 0
    · rw [if_pos e]; exact ⟨(l3 + 1, nI (j + 1)), rfl, rfl⟩
    · rw [if_neg e]; exact ⟨(l3, nI (j + 1)), rfl, rfl⟩
theorem tight_c (xs X : Nat → Int32) {L w : Nat} (hw : w ≤ 16) (hL : L < 65536) (h0 : L ≠ 0) : ∃ u, u < 16 ∧ L.testBit u = true ∧ f4_tightest 16 xs 16 X (nI L) (nI w) = some (nI u) := by
  obtain ⟨u0, hu0, hb0, hlo⟩ := lowest_c hL h0
  unfold f4_tightest
  rw [hlo, Option.bind_some]
  refine loop_one (fun n (x : Int32 × Int32 × Int32) => f4_tightest_l13 16 xs 16 X (nI L) (nI w) n x.1 x.2.1 x.2.2) 16 (fun j x => ∃ u, x.1 = nI u ∧ x.2.2 = nI j ∧ u < 16 ∧ L.testBit u = true) (fun P => ∃ u, u < 16 ∧ L.testBit u = true ∧ P = some (nI u)) (by decide) ?_ (nI u0, 17, 0) ⟨u0, rfl, rfl, hu0, hb0⟩
  rintro n j ⟨l4, l5, l6⟩ hj ⟨u, rfl, rfl, hu, hb⟩
  have ea : ∀ n x y i, f4_tightest_l13 16 xs 16 X (nI L) (nI w) (n + 1) x y i = f4_tightest_b13 16 xs 16 X (nI L) (nI w) (f4_tightest_l13 16 xs 16 X (nI L) (nI w) n) x y i := fun _ _ _ _ => rfl
  simp only [ea]
  generalize f4_tightest_l13 16 xs 16 X (nI L) (nI w) n = Kn
  unfold f4_tightest_b13
  by_cases h : 16 ≤ j
  · left
    have : j = 16 := by omega
    subst this
    rw [if_pos (by decide)]
    exact ⟨u, hu, hb, rfl⟩
  right
  have hj16 : j < 16 := by omega
  rw [if_neg (ge16 hj16), has9 (by omega) (by omega), nI_s]
  refine ⟨hj16, ?_⟩
  by_cases q : L.testBit j = true
  · rw [if_pos q, if_neg n10]
    obtain ⟨r, er⟩ := free_c xs (f9_at 16 X (nI j)) hw
    rw [er, Option.bind_some]
    by_cases e : l5 ≤ r
    · rw [if_pos e]; exact ⟨(nI u, l5, nI (j + 1)), rfl, u, rfl, rfl, hu, hb⟩
    · rw [if_neg e]; exact ⟨(nI j, r, nI (j + 1)), rfl, j, rfl, rfl, hj16, q⟩
  · rw [if_neg q, if_pos rfl]
    exact ⟨(nI u, l5, nI (j + 1)), rfl, u, rfl, rfl, hu, hb⟩
theorem upd_back {xs : Nat → Int32} {k : Nat} {x : Int32} : upd (upd xs k x) k (xs k) = xs := by
  funext i
  by_cases e : i = k
  · subst e; exact upd_s
  · rw [upd_n e, upd_n e]
/-- no bit in common -/
theorem and0 {a b : Nat} (ha : a < 65536) (hb : b < 65536) : (nI a &&& nI b = 0) ↔ ∀ q, q < 16 → a.testBit q = true → ¬ b.testBit q = true := by
  have lt : a &&& b < 65536 := by
    have : a &&& b ≤ a := Nat.and_le_left
    omega
  rw [andI, show (0 : Int32) = nI 0 from rfl, eqI (by omega) (by omega)]
  constructor
  · intro h q hq h1 h2
    have : (a &&& b).testBit q = true := by rw [Nat.testBit_and, h1, h2]; rfl
    rw [h, Nat.zero_testBit] at this
    exact absurd this (by decide)
  · intro h
    apply Nat.eq_of_testBit_eq
    intro i
    rw [Nat.zero_testBit, Nat.testBit_and]
    by_cases hi : i < 16
    · by_cases q : a.testBit i = true
      · rw [Bool.eq_false_iff.mpr (h i hi q), Bool.and_false]
      · rw [Bool.eq_false_iff.mpr q, Bool.false_and]
    · rw [hi_bit ha hi, Bool.false_and]
theorem PFX.put {M : Nat → Nat} {w j v : Nat} (h : PFX M w) (hb : ∀ a, a < j → M a ≠ 0) (hv : v ≠ 0) : PFX (pt M j v) w := by
  intro a b hab hbw h0
  by_cases e : a = j
  · subst e; rw [pt_s] at h0; exact absurd h0 hv
  · rw [pt_n e] at h0
    by_cases e2 : b = j
    · subst e2; exact absurd h0 (hb a hab)
    · rw [pt_n e2]; exact h a b hab hbw h0
theorem or_ne {a p : Nat} : a ||| 2 ^ p ≠ 0 := fun e => by
  have := or_bit' a p p
  rw [e, Nat.zero_testBit] at this
  simp at this
theorem cutL_c {L p : Nat} (hL : L < 65536) : nI L &&& (nI (2 ^ p) ^^^ -1) = nI (cut1 L p) := andn_c hL
theorem fill_c {nx : Nat → Nat} {w : Nat} {X : Nat → Int32} (hw : w ≤ 16) (hsym : ∀ p q, p < 16 → q < 16 → (nx p).testBit q = (nx q).testBit p) (hirr : ∀ p, p < 16 → (nx p).testBit p = false) (hn : ∀ p, p < 16 → X p = nI (nx p) ∧ nx p < 65536) : ∀ k d L M xs, popc L 16 ≤ k → k < d → L < 65536 → (∀ a, a < 16 → xs a = nI (M a) ∧ M a < 65536) → ∃ r, f4_canFill_rec d 16 xs 16 X (nI L) (nI w) = some (r, xs) ∧ ((r = 1 ∧ ∃ c, FLC nx M L w c) ∨ (r = 0 ∧ (PFX M w → ¬ ∃ c, FLC nx M L w c))) := by
  intro k
  induction k with
  | zero =>
    intro d L M xs hk hd hL hM
    obtain ⟨d', rfl⟩ : ∃ i, d = i + 1 := ⟨d - 1, by omega⟩
    have h0 : L = 0 := by
      by_cases h0 : L = 0
      · exact h0
      · obtain ⟨u, hu, hb, -⟩ := lowest_c hL h0
        have := popc_pos (n := 16) hb hu
        omega
    subst h0
    show ∃ r, f4_canFill (f4_canFill_rec d') 16 xs 16 X (nI 0) (nI w) = some (r, xs) ∧ _
    unfold f4_canFill
    rw [if_pos (show nI 0 = (0 : Int32) from rfl)]
    refine ⟨1, rfl, Or.inl ⟨rfl, fun _ => 0, fun p _ h => ?_, fun p q _ _ h => ?_⟩⟩
    · rw [Nat.zero_testBit] at h; exact absurd h (by decide)
    · rw [Nat.zero_testBit] at h; exact absurd h (by decide)
  | succ k ih =>
    intro d L M xs hk hd hL hM
    obtain ⟨d', rfl⟩ : ∃ i, d = i + 1 := ⟨d - 1, by omega⟩
    show ∃ r, f4_canFill (f4_canFill_rec d') 16 xs 16 X (nI L) (nI w) = some (r, xs) ∧ _
    unfold f4_canFill
    by_cases h0 : L = 0
    · subst h0
      rw [if_pos (show nI 0 = (0 : Int32) from rfl)]
      refine ⟨1, rfl, Or.inl ⟨rfl, fun _ => 0, fun p _ h => ?_, fun p q _ _ h => ?_⟩⟩
      · rw [Nat.zero_testBit] at h; exact absurd h (by decide)
      · rw [Nat.zero_testBit] at h; exact absurd h (by decide)
    obtain ⟨p, hp, hbp, ht⟩ := tight_c xs X hw hL h0
    obtain ⟨np, np2⟩ := hn p hp
    rw [if_neg (show ¬ nI L = 0 by rw [show (0 : Int32) = nI 0 from rfl, eqI (by omega) (by omega)]; exact h0), ht, Option.bind_some]
    have pc := popc_cut hL hp hbp
    have cl : cut1 L p < 65536 := mset_lt _ 16
    refine loop_one (fun n (x : Int32) => f4_canFill_l18 (f4_canFill_rec d') 16 16 X (nI L) (nI w) n xs (nI p) x) w
      (fun j x => x = nI j ∧ ∀ a, a < j → M a ≠ 0 ∧ (PFX M w → ¬ ∃ c, FLC nx M L w c ∧ c p = a))
      (fun P => ∃ r, P = some (r, xs) ∧ ((r = 1 ∧ ∃ c, FLC nx M L w c) ∨ (r = 0 ∧ (PFX M w → ¬ ∃ c, FLC nx M L w c)))) (by omega) ?_ 0 ⟨rfl, fun a h => absurd h (by omega)⟩
    rintro n j x hj ⟨rfl, hno⟩
    have ea : ∀ n xs i, f4_canFill_l18 (f4_canFill_rec d') 16 16 X (nI L) (nI w) (n + 1) xs (nI p) i = f4_canFill_b18 (f4_canFill_rec d') 16 16 X (nI L) (nI w) (f4_canFill_l18 (f4_canFill_rec d') 16 16 X (nI L) (nI w) n) xs (nI p) i := fun _ _ _ => rfl
    simp only [ea]
    generalize f4_canFill_l18 (f4_canFill_rec d') 16 16 X (nI L) (nI w) n = Kn
    unfold f4_canFill_b18
    by_cases hjw : w ≤ j
    · left
      rw [if_pos (by rw [leI (by omega) (by omega)]; exact hjw)]
      refine ⟨0, rfl, Or.inr ⟨rfl, fun hpf ⟨c, hc⟩ => ?_⟩⟩
      have := (hc.1 p hp hbp).1
      exact (hno (c p) (by omega)).2 hpf ⟨c, hc, rfl⟩
    have hjw' : j < w := by omega
    obtain ⟨m1, m2⟩ := hM j (by omega)
    rw [if_neg (by rw [leI (by omega) (by omega)]; exact hjw), at_nI (show j < 16 by omega) (by decide), at_nI hp (by decide), m1, np]
    by_cases hc : ∀ q, q < 16 → (M j).testBit q = true → ¬ (nx p).testBit q = true
    · rw [if_pos ((and0 m2 np2).mpr hc), shl1 (by omega), or_nI, put_nI (show j < 16 by omega) (by decide), cutL_c hL]
      simp only [letv]
      have hM' : ∀ a, a < 16 → upd xs j (nI (M j ||| 2 ^ p)) a = nI (pt M j (M j ||| 2 ^ p) a) ∧ pt M j (M j ||| 2 ^ p) a < 65536 := by
        intro a ha
        by_cases e : a = j
        · subst e; rw [upd_s, pt_s]; exact ⟨rfl, Nat.or_lt_two_pow (n := 16) m2 (pow16 hp)⟩
        · rw [upd_n e, pt_n e]; exact hM a ha
      obtain ⟨r, r1, r2⟩ := ih d' (cut1 L p) (pt M j (M j ||| 2 ^ p)) (upd xs j (nI (M j ||| 2 ^ p))) (by omega) (by omega) cl hM'
      rw [r1, Option.bind_some, put_nI (show j < 16 by omega) (by decide), ← m1, upd_back, nI_s]
      have pf : PFX M w → PFX (pt M j (M j ||| 2 ^ p)) w := fun h => h.put (fun a ha => (hno a ha).1) or_ne
      rcases r2 with ⟨rfl, c, hfc⟩ | ⟨rfl, hfc⟩
      · left
        rw [if_neg n10, if_neg (show ¬ ¬ ((1 : Int32) = 0 ∨ (1 : Int32) = 1) from fun h => h (Or.inr rfl))]
        exact ⟨1, rfl, Or.inl ⟨rfl, _, hfc.out hsym hirr hL hp hjw' hc⟩⟩
      · rw [if_pos rfl, m1]
        have noj : PFX M w → ¬ ∃ c, FLC nx M L w c ∧ c p = j := fun hpf ⟨c, h1, h2⟩ => by
          have := h1.into hsym hL hp hbp
          rw [h2] at this
          exact hfc (pf hpf) ⟨c, this⟩
        by_cases Mj : M j = 0
        · left
          rw [Mj, if_pos (show nI 0 = (0 : Int32) from rfl), if_neg (show ¬ ¬ ((0 : Int32) = 0 ∨ (0 : Int32) = 1) from fun h => h (Or.inl rfl))]
          refine ⟨0, rfl, Or.inr ⟨rfl, fun hpf ⟨c, h1⟩ => ?_⟩⟩
          have cw := (h1.1 p hp hbp).1
          by_cases e1 : c p < j
          · exact (hno (c p) e1).2 hpf ⟨c, h1, rfl⟩
          · by_cases e2 : c p = j
            · exact noj hpf ⟨c, h1, e2⟩
            · have := h1.swap hjw' cw Mj (hpf j (c p) (by omega) cw Mj)
              exact noj hpf ⟨_, this, swp_b rfl⟩
        · right
          rw [if_neg (show ¬ nI (M j) = 0 by rw [show (0 : Int32) = nI 0 from rfl, eqI (by omega) (by omega)]; exact Mj)]
          refine ⟨by omega, nI (j + 1), rfl, rfl, fun a ha => ?_⟩
          by_cases e : a = j
          · subst e; exact ⟨Mj, noj⟩
          · exact hno a (by omega)
    · right
      rw [if_neg (fun h => hc ((and0 m2 np2).mp h)), nI_s]
      refine ⟨by omega, nI (j + 1), rfl, rfl, fun a ha => ?_⟩
      by_cases e : a = j
      · subst e
        refine ⟨fun h => hc (fun q hq hm => ?_), fun _ ⟨c, h1, h2⟩ => hc (fun q hq hm => ?_)⟩
        · rw [h, Nat.zero_testBit] at hm; exact absurd hm (by decide)
        · have := (h1.1 p hp hbp).2 q hq
          rw [h2] at this
          exact this hm
      · exact hno a (by omega)
