/-! lanes and bridges -/
theorem inv_steps' {σf : Nat → Nat → Int32} {σA : Nat → Nat → Nat → Int32} {fW : Nat → Nat → Int32} {AW : Nat → Nat → Nat → Int32} {μf : Nat → Int32} {μA : Nat → Nat → Int32} (hI : INV σf σA fW AW μf μA) {A1 A2 : Nat → Nat → Int32} (f1 : ∀ i, i < 16 → A1 1 i = σA 2 1 i) (f3 : ∀ i, i < 16 → A2 3 i = μA 3 i) (f2 : ∀ j, j ≠ 3 → j ≠ 45 → j ≠ 46 → j ≠ 47 → A2 j = μA j) : INV σf (cset σA 2 A1) fW AW μf A2 := by
  obtain ⟨T, nx, ⟨b1, b2, b3, b4, b5, b6, b7⟩, hS, hT, hW, hK, hL, hX⟩ := hI
  refine ⟨T, nx, ⟨b1, b2, b3, fun p hp => ?_, b5, b6, b7⟩, ?_, ?_, ?_, ?_, ?_, ?_⟩
  · show A1 1 p = _ ∧ A2 3 p = _ ∧ _
    rw [f1 p hp, f3 p hp]; exact b4 p hp
  · show RS T (σf 3) (σA 3) (A2 0)
    rw [f2 0 (by decide) (by decide) (by decide) (by decide)]; exact hS
  · show RT (σf 1 1) (μf 8) (σA 1 0) (A2 7)
    rw [f2 7 (by decide) (by decide) (by decide) (by decide)]; exact hT
  · show RW fW AW (A2 4) (A2 5)
    rw [f2 4 (by decide) (by decide) (by decide) (by decide), f2 5 (by decide) (by decide) (by decide) (by decide)]; exact hW
  · show RK T (σf 0 14) (μf 51) (σf 5) (σA 5) (A2 2)
    rw [f2 2 (by decide) (by decide) (by decide) (by decide)]; exact hK
  · exact LAWR.congr (fL := σf 10) (AL := σA 10) (g := μf) (B := μA) hL rfl (fun _ _ => rfl) rfl (fun j h1 h2 => f2 j (by omega) (by omega) (by omega) (by omega))
  · show RX (σA 12 0) (A2 43)
    rw [f2 43 (by decide) (by decide) (by decide) (by decide)]; exact hX
def cut1 (a q : Nat) : Nat := mset (fun i => a.testBit i && !(2 ^ q).testBit i) 16
def nxm (nx : Nat → Nat) (p q : Nat) : Nat → Nat := fun i => if i = p then cut1 (nx p) q else if i = q then cut1 (nx q) p else nx i
def brd (nx : Nat → Nat) (p q : Nat) : Bool := (nx p).testBit q && (DD (nxm nx p q) p q == 16)
theorem cut1_lt (a q : Nat) : cut1 a q < 65536 := mset_lt _ 16
theorem cut1_back {a q : Nat} (ha : a < 65536) (hq : q < 16) (h : a.testBit q = true) : cut1 a q ||| 2 ^ q = a := by
  apply Nat.eq_of_testBit_eq
  intro i
  unfold cut1
  rw [Nat.testBit_or, mset_bit, Nat.testBit_two_pow]
  by_cases e : q = i
  · subst e; simp [h]
  · by_cases hi : i < 16
    · simp [hi, e]
    · have : a.testBit i = false := Nat.testBit_lt_two_pow (Nat.lt_of_lt_of_le ha (Nat.pow_le_pow_right (n := 2) (i := 16) (by decide) (by omega)))
      simp [hi, e, this]
theorem cut_c {a q : Nat} (ha : a < 65536) : nI a &&& (nI (2 ^ q) ^^^ -1) = nI (cut1 a q) := andn_c ha
theorem br9 {f : Nat → Int32} {A : Nat → Nat → Int32} {nx : Nat → Nat} {p q : Nat} (hp : p < 16) (hq : q < 16) (hpq : p ≠ q) (hn : ∀ p, p < 16 → A 1 p = nI (nx p) ∧ nx p < 65536) (hsym : ∀ p q, p < 16 → q < 16 → (nx p).testBit q = (nx q).testBit p) : ∃ A', f1_isBridge f A (nI p) (nI q) = some (if brd nx p q then nI 1 else nI 0, A') ∧ (∀ i, i < 16 → A' 1 i = A 1 i) ∧ ∀ j, j ≠ 1 → j ≠ 2 → A' j = A j := by
  obtain ⟨n1, n2⟩ := hn p hp
  obtain ⟨n3, n4⟩ := hn q hq
  unfold f1_isBridge
  rw [at_nI hp (by decide), n1, has9 (by omega) (by omega)]
  by_cases hb : ¬ (nx p).testBit q = true
  · rw [if_neg hb, if_pos rfl]
    have : brd nx p q = false := by unfold brd; rw [Bool.eq_false_iff.mpr hb, Bool.false_and]
    rw [this]
    exact ⟨A, rfl, fun _ _ => rfl, fun _ _ _ => rfl⟩
  replace hb : (nx p).testBit q = true := Classical.not_not.mp hb
  have hb' : (nx q).testBit p = true := by rw [← hsym p q hp hq]; exact hb
  rw [if_pos hb, if_neg n10]
  have hpart : f1_part f A (nI p) (nI q) = updA (updA A 1 (upd (A 1) p (nI (cut1 (nx p) q)))) 1 (upd (upd (A 1) p (nI (cut1 (nx p) q))) q (nI (cut1 (nx q) p))) := by
    unfold f1_part
    simp only [letv]
    rw [updA_s, at_nI hp (by decide), at_nI hq (by decide), put_nI hp (by decide), put_nI hq (by decide), upd_n (fun h => hpq h.symm), n1, n3, shl1 (by omega), shl1 (by omega), cut_c n2, cut_c n4]
  obtain ⟨A1, e1, hst, hf⟩ := measure_c (f := f) (A := f1_part f A (nI p) (nI q)) (nx := nxm nx p q) hp (fun i hi => by
    rw [hpart, updA_s]
    unfold nxm
    by_cases e : i = q
    · subst e
      rw [upd_s, if_neg (fun h => hpq h.symm), if_pos rfl]
      exact ⟨rfl, cut1_lt _ _⟩
    · rw [upd_n e]
      by_cases e2 : i = p
      · subst e2
        rw [upd_s, if_pos rfl]
        exact ⟨rfl, cut1_lt _ _⟩
      · rw [upd_n e2, if_neg e2, if_neg e]
        exact hn i hi)
  simp only [letv]
  rw [e1, Option.bind_some]
  have h1 : A1 1 = upd (upd (A 1) p (nI (cut1 (nx p) q))) q (nI (cut1 (nx q) p)) := by rw [hf 1 (by decide), hpart, updA_s]
  have hjoin : f1_join f A1 (nI p) (nI q) = updA (updA A1 1 (upd (A1 1) p (nI (nx p)))) 1 (upd (upd (A1 1) p (nI (nx p))) q (nI (nx q))) := by
    unfold f1_join
    simp only [letv]
    rw [updA_s, at_nI hp (by decide), at_nI hq (by decide), put_nI hp (by decide), put_nI hq (by decide), upd_n (fun h => hpq h.symm), h1, upd_n hpq, upd_s, upd_s, shl1 (by omega), shl1 (by omega), orI, orI, cut1_back n2 hq hb, cut1_back n4 hp hb']
  have hs : f1_stepsTo f (f1_join f A1 (nI p) (nI q)) (nI q) = st (nxm nx p q) p q := by
    rw [stepsTo_c hq, hjoin, updA_n (by decide), updA_n (by decide), hst q hq]
  have hD := DD_16 (nxm nx p q) p q
  refine ⟨f1_join f A1 (nI p) (nI q), ?_, fun i hi => ?_, fun j a b => ?_⟩
  · rw [hs]
    unfold st brd
    rw [hb, Bool.true_and]
    by_cases d : DD (nxm nx p q) p q < 16
    · rw [if_pos d, if_neg (show ¬ nI (DD (nxm nx p q) p q) = -1 by rw [show (-1 : Int32) = -nI 1 from rfl, eq_neg (by omega) (by omega) (by omega)]; exact not_false), beq_eq_false_iff_ne.mpr (by omega)]
      rfl
    · rw [if_neg d, if_pos rfl, beq_iff_eq.mpr (by omega)]
      rfl
  · rw [hjoin, updA_s, h1]
    by_cases e : i = q
    · subst e; rw [upd_s, n3]
    · rw [upd_n e]
      by_cases e2 : i = p
      · subst e2; rw [upd_s, n1]
      · rw [upd_n e2, upd_n e, upd_n e2]
  · rw [hjoin, updA_n a, updA_n a, hf j b, hpart, updA_n a, updA_n a]
theorem br10 {g : Nat → Int32} {A : Nat → Nat → Int32} {nx : Nat → Nat} {p q : Nat} (hp : p < 16) (hq : q < 16) (hpq : p ≠ q) (hn : ∀ p, p < 16 → A 3 p = nI (nx p) ∧ nx p < 65536) (hsym : ∀ p q, p < 16 → q < 16 → (nx p).testBit q = (nx q).testBit p) (hb : (nx p).testBit q = true) : ∃ A', f10_isBridge g A (nI p) (nI q) = some (if brd nx p q then nI 1 else nI 0, A') ∧ (∀ i, i < 16 → A' 3 i = A 3 i) ∧ ∀ j, j ≠ 3 → j ≠ 45 → j ≠ 46 → j ≠ 47 → A' j = A j := by
  obtain ⟨n1, n2⟩ := hn p hp
  obtain ⟨n3, n4⟩ := hn q hq
  have hb' : (nx q).testBit p = true := by rw [← hsym p q hp hq]; exact hb
  unfold f10_isBridge
  have i1 : ¬ (nI p < 0 ∨ 16 ≤ (nI p).toNatClampNeg) := nI_in hp (by decide)
  have i2 : ¬ (nI q < 0 ∨ 16 ≤ (nI q).toNatClampNeg) := nI_in hq (by decide)
  simp only [letv, if_neg i1, if_neg i2]
  have hpart : updA (updA A 3 (ux (A 3) (nI p) (gx (A 3) (nI p) &&& (shl 1 (nI q) ^^^ -1)))) 3 (ux (updA A 3 (ux (A 3) (nI p) (gx (A 3) (nI p) &&& (shl 1 (nI q) ^^^ -1))) 3) (nI q) (gx (updA A 3 (ux (A 3) (nI p) (gx (A 3) (nI p) &&& (shl 1 (nI q) ^^^ -1))) 3) (nI q) &&& (shl 1 (nI p) ^^^ -1))) = updA (updA A 3 (upd (A 3) p (nI (cut1 (nx p) q)))) 3 (upd (upd (A 3) p (nI (cut1 (nx p) q))) q (nI (cut1 (nx q) p))) := by
    rw [updA_s, gx_nI (by omega), gx_nI (by omega), ux_nI (by omega), ux_nI (by omega), upd_n (fun h => hpq h.symm), n1, n3, shl1 (by omega), shl1 (by omega), cut_c n2, cut_c n4]
  rw [hpart]
  obtain ⟨A1, e1, hst, -, hf, -⟩ := lays_st (g := g) (A := updA (updA A 3 (upd (A 3) p (nI (cut1 (nx p) q)))) 3 (upd (upd (A 3) p (nI (cut1 (nx p) q))) q (nI (cut1 (nx q) p)))) (nx := nxm nx p q) hp (fun i hi => by
    rw [updA_s]
    unfold nxm
    by_cases e : i = q
    · subst e
      rw [upd_s, if_neg (fun h => hpq h.symm), if_pos rfl]
      exact ⟨rfl, cut1_lt _ _⟩
    · rw [upd_n e]
      by_cases e2 : i = p
      · subst e2
        rw [upd_s, if_pos rfl]
        exact ⟨rfl, cut1_lt _ _⟩
      · rw [upd_n e2, if_neg e2, if_neg e]
        exact hn i hi)
  rw [e1, Option.bind_some]
  have h1 : A1 3 = upd (upd (A 3) p (nI (cut1 (nx p) q))) q (nI (cut1 (nx q) p)) := by rw [hf 3 (by decide) (by decide) (by decide), updA_s]
  have hjoin : updA (updA A1 3 (ux (A1 3) (nI p) (gx (A1 3) (nI p) ||| shl 1 (nI q)))) 3 (ux (updA A1 3 (ux (A1 3) (nI p) (gx (A1 3) (nI p) ||| shl 1 (nI q))) 3) (nI q) (gx (updA A1 3 (ux (A1 3) (nI p) (gx (A1 3) (nI p) ||| shl 1 (nI q))) 3) (nI q) ||| shl 1 (nI p))) = updA (updA A1 3 (upd (A1 3) p (nI (nx p)))) 3 (upd (upd (A1 3) p (nI (nx p))) q (nI (nx q))) := by
    rw [updA_s, gx_nI (by omega), gx_nI (by omega), ux_nI (by omega), ux_nI (by omega), upd_n (fun h => hpq h.symm), h1, upd_n hpq, upd_s, upd_s, shl1 (by omega), shl1 (by omega), orI, orI, cut1_back n2 hq hb, cut1_back n4 hp hb']
  rw [hjoin]
  have hs : gx (updA (updA A1 3 (upd (A1 3) p (nI (nx p)))) 3 (upd (upd (A1 3) p (nI (nx p))) q (nI (nx q))) 46) (nI q) = st (nxm nx p q) p q := by
    rw [updA_n (by decide), updA_n (by decide), gx_nI (by omega), hst q hq]
  have hD := DD_16 (nxm nx p q) p q
  refine ⟨updA (updA A1 3 (upd (A1 3) p (nI (nx p)))) 3 (upd (upd (A1 3) p (nI (nx p))) q (nI (nx q))), ?_, fun i hi => ?_, fun j a b c d => ?_⟩
  · rw [hs]
    unfold st brd
    rw [hb, Bool.true_and]
    by_cases d : DD (nxm nx p q) p q < 16
    · rw [if_pos d, if_neg (show ¬ nI (DD (nxm nx p q) p q) = -1 by rw [show (-1 : Int32) = -nI 1 from rfl, eq_neg (by omega) (by omega) (by omega)]; exact not_false), beq_eq_false_iff_ne.mpr (by omega)]
      rfl
    · rw [if_neg d, if_pos rfl, beq_iff_eq.mpr (by omega)]
      rfl
  · rw [updA_s, h1]
    by_cases e : i = q
    · subst e; rw [upd_s, n3]
    · rw [upd_n e]
      by_cases e2 : i = p
      · subst e2; rw [upd_s, n1]
      · rw [upd_n e2, upd_n e, upd_n e2]
  · rw [updA_n a, updA_n a, hf j b c d, updA_n a, updA_n a]
def tsum (f : Nat → Nat) : Nat → Nat
  | 0 => 0
  | n + 1 => tsum f n + f n
theorem tsum_congr {f g : Nat → Nat} {n : Nat} (e : ∀ i, i < n → f i = g i) : tsum f n = tsum g n := by
  induction n with
  | zero => rfl
  | succ n ih =>
    show tsum f n + f n = tsum g n + g n
    rw [ih (fun i hi => e i (by omega)), e n (by omega)]
theorem tsum_add {f g : Nat → Nat} {n : Nat} : tsum (fun i => f i + g i) n = tsum f n + tsum g n := by
  induction n with
  | zero => rfl
  | succ n ih =>
    show tsum (fun i => f i + g i) n + (f n + g n) = tsum f n + f n + (tsum g n + g n)
    rw [ih]; omega
theorem tsum_cnt (g : Nat → Bool) (n : Nat) : tsum (fun i => if g i then 1 else 0) n = cnt g n := by
  induction n with
  | zero => rfl
  | succ n ih =>
    show tsum _ n + (if g n then 1 else 0) = cnt g n + (if g n then 1 else 0)
    rw [ih]
def rowc (g : Nat → Nat → Bool) (n p : Nat) : Nat := cnt (fun q => decide (p < q) && g p q) n
theorem cnt_zero {g : Nat → Bool} {n : Nat} (h : ∀ i, i < n → g i = false) : cnt g n = 0 := by
  induction n with
  | zero => rfl
  | succ n ih =>
    show cnt g n + (if g n then 1 else 0) = 0
    rw [ih (fun i hi => h i (by omega)), h n (by omega)]
    rfl
theorem twice (g : Nat → Nat → Bool) (m : Nat) (hs : ∀ p q, p < m → q < m → g p q = g q p) (hi : ∀ p, p < m → g p p = false) : ∀ n, n ≤ m → tsum (fun p => cnt (g p) n) n = 2 * tsum (rowc g n) n := by
  intro n
  induction n with
  | zero => intro _; rfl
  | succ n ih =>
    intro hn
    have e1 : tsum (fun p => cnt (g p) (n + 1)) n = tsum (fun p => cnt (g p) n) n + cnt (fun p => g p n) n := by
      have : tsum (fun p => cnt (g p) (n + 1)) n = tsum (fun p => cnt (g p) n + (if g p n then 1 else 0)) n := rfl
      rw [this, tsum_add, tsum_cnt]
    have e2 : tsum (rowc g (n + 1)) n = tsum (rowc g n) n + cnt (fun p => g p n) n := by
      have : tsum (rowc g (n + 1)) n = tsum (fun p => rowc g n p + (if g p n then 1 else 0)) n := by
        refine tsum_congr (fun p hp => ?_)
        show cnt _ n + (if (decide (p < n) && g p n) then 1 else 0) = rowc g n p + _
        rw [decide_eq_true hp, Bool.true_and]
        rfl
      rw [this, tsum_add, tsum_cnt]
    have e3 : rowc g (n + 1) n = 0 := cnt_zero (fun i hi => by rw [decide_eq_false (by omega), Bool.false_and])
    have e4 : cnt (g n) (n + 1) = cnt (fun p => g p n) n := by
      show cnt (g n) n + (if g n n then 1 else 0) = _
      rw [hi n (by omega)]
      show cnt (g n) n = _
      exact cnt_congr (fun i h => hs n i (by omega) (by omega))
    show tsum (fun p => cnt (g p) (n + 1)) n + cnt (g n) (n + 1) = 2 * (tsum (rowc g (n + 1)) n + rowc g (n + 1) n)
    rw [e1, e2, e3, e4, ih (by omega)]
    omega
theorem lanesAll_c {f : Nat → Int32} {A : Nat → Nat → Int32} {nx : Nat → Nat} (hn : ∀ p, p < 16 → A 1 p = nI (nx p) ∧ nx p < 65536) (hsym : ∀ p q, p < 16 → q < 16 → (nx p).testBit q = (nx q).testBit p) (hirr : ∀ p, p < 16 → (nx p).testBit p = false) : f1_lanesInAll f A = some (nI (tsum (rowc (fun p q => (nx p).testBit q) 16) 16)) := by
  have tw := twice (fun p q => (nx p).testBit q) 16 hsym hirr 16 (Nat.le_refl _)
  have bound : ∀ n, tsum (fun p => cnt (fun q => (nx p).testBit q) 16) n ≤ 16 * n := by
    intro n
    induction n with
    | zero => exact Nat.le_refl _
    | succ n ih =>
      have := cnt_le (fun q => (nx n).testBit q) 16
      show tsum _ n + cnt (fun q => (nx n).testBit q) 16 ≤ _
      omega
  unfold f1_lanesInAll
  refine loop_one (fun n (x : Int32 × Int32) => f1_lanesInAll_l4 f A n x.1 x.2) 16 (fun j x => x = (nI (tsum (fun p => cnt (fun q => (nx p).testBit q) 16) j), nI j)) (fun a => a = some (nI (tsum (rowc (fun p q => (nx p).testBit q) 16) 16))) (by decide) ?_ (0, 0) rfl
  rintro n j x hj rfl
  have e4 : ∀ n x i, f1_lanesInAll_l4 f A (n + 1) x i = f1_lanesInAll_b4 f A (f1_lanesInAll_l4 f A n) x i := fun _ _ _ => rfl
  simp only [e4]
  unfold f1_lanesInAll_b4
  by_cases h : 16 ≤ j
  · have : j = 16 := by omega
    subst this
    left
    have := bound 16
    rw [if_pos (by decide), show (2 : Int32) = nI 2 from rfl, divI (by omega) (by omega) (by omega), tw, Nat.mul_div_cancel_left _ (by decide)]
  right
  obtain ⟨h1, h2⟩ := hn j (by omega)
  rw [if_neg (ge16 (show j < 16 by omega)), at_nI (by omega) (by decide), h1, bc_all h2, addI, nI_s, popc_cnt]
  exact ⟨by omega, (_, _), rfl, rfl⟩
