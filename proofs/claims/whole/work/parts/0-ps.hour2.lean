theorem near_c {T F p N : Nat} {w : Nat → Nat} {fs g X : Nat → Int32} {As B : Nat → Nat → Int32} (hM : MEN T F w fs As (B 0)) (hC : CR F w X) (hN : N < 65536) (h3 : B 3 p = nI N) (hp : p < 16) : ∃ r, f9_sumOf 16 X (nI N) = some r ∧ f10_menNear g B (nI p) = some r := by
  unfold f9_sumOf f10_menNear
  refine loop_rel (fun n (s : Int32 × Int32) => f9_sumOf_l4 16 X (nI N) n s.1 s.2) (fun n (s : Int32 × Int32) => f10_menNear_l4 g B (nI p) n s.1 s.2) 16
    (fun j s t => ∃ x, s = (x, nI j) ∧ t = (x, nI j)) (fun a b => ∃ r, a = some r ∧ b = some r) (by decide) ?_ (0, 0) (0, 0) ⟨_, rfl, rfl⟩
  rintro n m j s t hj ⟨x, rfl, rfl⟩
  show (∃ r, f9_sumOf_b4 16 X (nI N) (f9_sumOf_l4 16 X (nI N) n) x (nI j) = some r ∧ f10_menNear_b4 g B (nI p) (f10_menNear_l4 g B (nI p) m) x (nI j) = some r) ∨ (j < 16 ∧ ∃ (s' t' : Int32 × Int32), f9_sumOf_b4 16 X (nI N) (f9_sumOf_l4 16 X (nI N) n) x (nI j) = f9_sumOf_l4 16 X (nI N) n s'.1 s'.2 ∧ f10_menNear_b4 g B (nI p) (f10_menNear_l4 g B (nI p) m) x (nI j) = f10_menNear_l4 g B (nI p) m t'.1 t'.2 ∧ _)
  generalize f9_sumOf_l4 16 X (nI N) n = Kn
  generalize f10_menNear_l4 g B (nI p) m = Km
  unfold f9_sumOf_b4 f10_menNear_b4
  by_cases h : 16 ≤ j
  · left
    simp (maxSteps := 3000000) (disch := omega) only [litI, letv, eqI, leI, ltI, addI, mulI, subI, clI, addneg, at_nI, put_nI, nI_s, orI, shl1I, ifb0, ifb1, Option.bind_some, gx, ux, Nat.add_zero, Nat.zero_add, Nat.not_lt_zero, false_or, or_false, Nat.mul_zero, Nat.zero_mul, if_pos]
    exact ⟨_, rfl, rfl⟩
  · right
    have c3 := stands_lt F w j
    refine ⟨by omega, ?_⟩
    simp (maxSteps := 3000000) (disch := omega) only [litI, letv, eqI, leI, ltI, addI, mulI, subI, clI, addneg, at_nI, put_nI, nI_s, orI, shl1I, ifb0, ifb1, Option.bind_some, gx, ux, Nat.add_zero, Nat.zero_add, Nat.not_lt_zero, false_or, or_false, Nat.mul_zero, Nat.zero_mul, if_neg, has9I, has10I, h3, hM.at10, bits10, hC j]
    by_cases q : N.testBit j = true
    · have c := hC j (by omega)
      simp (maxSteps := 3000000) (disch := omega) only [q, eq_self, not_true, if_false, c]
      exact ⟨(_, _), (_, _), rfl, rfl, _, rfl, rfl⟩
    · simp (maxSteps := 3000000) (disch := omega) only [q, Bool.false_eq_true, not_false_eq_true, if_true]
      exact ⟨(_, _), (_, _), rfl, rfl, _, rfl, rfl⟩
theorem know_c {T hr F p : Nat} {w bd nx : Nat → Nat} {f0 fs fB g : Nat → Int32} {A0 As AB B : Nat → Nat → Int32} (hB : RB T nx (fB 0) (g 6) (AB 1) (B 3)) (hM : MEN T F w fs As (B 0)) (hS : RSb T hr bd fs As (B 0)) (hC : CR F w (A0 0)) (hp : p < 16) : ∃ A0' B', f5_know f0 A0 fs As (nI p) (nI (nx p)) = some A0' ∧ f10_feels g B (nI p) = some B' ∧ (∀ i, i < 8 → A0' 1 i = B' 30 i) ∧ (∀ j, j ≠ 1 → A0' j = A0 j) ∧ ∀ j, j ≠ 30 → B' j = B j := by
  obtain ⟨b1, b2, b3, b4, b5, b6, b7⟩ := hB
  obtain ⟨⟨t, t1, t2, t3⟩, ⟨gr, g1, g2, g3⟩, ⟨l, l1, l2, l3⟩⟩ := hS.1 p hp
  obtain ⟨hr1, hr2, hr3, -⟩ := hS.2.1
  obtain ⟨cr, cr1, cr2, cr3⟩ := hS.2.2.2.1
  have c3 := stands_lt F w p
  have c := hC p hp
  have m0 : ∀ x y z, f10_menAt g (updA (updA (updA B 30 x) 30 y) 30 z) (nI p) = some (nI (stands F w p)) := fun x y z => MEN.at10 (B := updA (updA (updA B 30 x) 30 y) 30 z) (fs := fs) (As := As) hM hp
  have nr : ∃ r, f9_sumOf 16 (A0 0) (nI (nx p)) = some r ∧ ∀ x y z u, f10_menNear g (updA (updA (updA (updA B 30 x) 30 y) 30 z) 30 u) (nI p) = some r := by
    obtain ⟨r, r1, r2⟩ := near_c (g := g) hM hC (b4 p hp).2.2 (b4 p hp).2.1 hp
    refine ⟨r, r1, fun x y z u => ?_⟩
    obtain ⟨r', r1', r2'⟩ := near_c (g := g) (B := updA (updA (updA (updA B 30 x) 30 y) 30 z) 30 u) (fs := fs) (As := As) hM hC (b4 p hp).2.2 (b4 p hp).2.1 hp
    rw [r2', ← r1', r1]
  obtain ⟨r, r1, r2⟩ := nr
  unfold f5_know f10_feels
  simp (maxSteps := 3000000) (disch := omega) only [litI, letv, eqI, leI, ltI, addI, mulI, subI, clI, addneg, at_nI, put_nI, nI_s, orI, shl1I, ifb0, ifb1, Option.bind_some, gx, ux, Nat.add_zero, Nat.zero_add, Nat.not_lt_zero, false_or, or_false, Nat.mul_zero, Nat.zero_mul, if_neg, updA_s, updA_n, t2, t3, g2, g3, l2, l3, hr2, hr3, cr2, cr3, c, m0, bits10, r1, r2]
  refine ⟨_, _, rfl, rfl, fun i hi => ?_, fun j hj => ?_, fun j hj => ?_⟩
  · simp only [updA_s]
    rcases (show i = 0 ∨ i = 1 ∨ i = 2 ∨ i = 3 ∨ i = 4 ∨ i = 5 ∨ i = 6 ∨ i = 7 by omega) with rfl | rfl | rfl | rfl | rfl | rfl | rfl | rfl <;> rfl
  · rw [updA_n hj, updA_n hj, updA_n hj, updA_n hj, updA_n hj, updA_n hj, updA_n hj, updA_n hj]
  · rw [updA_n hj, updA_n hj, updA_n hj, updA_n hj, updA_n hj, updA_n hj, updA_n hj, updA_n hj]
theorem know_same {f0 fs fs' : Nat → Int32} {A0 As : Nat → Nat → Int32} {p n : Int32} (h8 : fs' 8 = fs 8) (h7 : fs' 7 = fs 7) : f5_know f0 A0 fs' As p n = f5_know f0 A0 fs As p n := by
  unfold f5_know
  rw [h8, h7]
def bdp (hr : Nat) (w : Nat → Nat) (p : Nat) : Nat → Nat := fun c => 99 * hr + if w c < p then 99 else 0
theorem pay_c {T hr F p pn : Nat} {w : Nat → Nat} {f0 fs g : Nat → Int32} {A0 As B : Nat → Nat → Int32} {d0 : Int32} (hM : MEN T F w fs As (B 0)) (hS : RSb T hr (bdp hr w p) fs As (B 0)) (hp : p < 16) (hh : hr < 9999) (hpn : pn ≤ 99) (hd : g 42 = d0 + f0 3) : ∃ f0' As' B' g', f5_pay f0 A0 fs As (nI p) (nI pn) = some (f0', As') ∧ f10_pays_l16 (nI p) NF B g (nI pn) 0 = some (B', g') ∧ MEN T F w fs As' (B' 0) ∧ RSb T hr (bdp hr w (p + 1)) fs As' (B' 0) ∧ g' 42 = d0 + f0' 3 ∧ (∀ j, j ≠ 0 → B' j = B j) ∧ (∀ j, j ≠ 42 → g' j = g j) ∧ ∀ j, j ≠ 3 → f0' j = f0 j := by
  unfold f5_pay
  refine loop_rel (fun n (s : (Nat → Int32) × (Nat → Nat → Int32) × Int32) => f5_pay_l3 A0 fs (nI p) (nI pn) n s.1 s.2.1 s.2.2) (fun n (s : (Nat → Nat → Int32) × (Nat → Int32) × Int32) => f10_pays_l16 (nI p) n s.1 s.2.1 (nI pn) s.2.2) 8
    (fun j s t => ∃ f0' As' B' g', s = (f0', As', nI j) ∧ t = (B', g', nI j) ∧ MEN T F w fs As' (B' 0) ∧ RSb T hr (fun c => if c < j then bdp hr w (p + 1) c else bdp hr w p c) fs As' (B' 0) ∧ g' 42 = d0 + f0' 3 ∧ (∀ j, j ≠ 0 → B' j = B j) ∧ (∀ j, j ≠ 42 → g' j = g j) ∧ ∀ j, j ≠ 3 → f0' j = f0 j)
    (fun a b => ∃ f0' As' B' g', a = some (f0', As') ∧ b = some (B', g') ∧ MEN T F w fs As' (B' 0) ∧ RSb T hr (bdp hr w (p + 1)) fs As' (B' 0) ∧ g' 42 = d0 + f0' 3 ∧ (∀ j, j ≠ 0 → B' j = B j) ∧ (∀ j, j ≠ 42 → g' j = g j) ∧ ∀ j, j ≠ 3 → f0' j = f0 j) (by decide) ?_ (f0, As, 0) (B, g, 0) ⟨f0, As, B, g, rfl, rfl, hM, hS.mono (fun d _ => by simp), hd, fun _ _ => rfl, fun _ _ => rfl, fun _ _ => rfl⟩
  rintro n m j s t hj ⟨f1, A1, B1, g1, rfl, rfl, hM1, hS1, hd1, k1, k2, k3⟩
  by_cases h8 : 8 ≤ j
  · left
    have : j = 8 := by omega
    subst this
    exact ⟨f1, A1, B1, g1, rfl, rfl, hM1, hS1.mono (fun d hd => by simp only [if_pos hd]; exact Nat.le_refl _), hd1, k1, k2, k3⟩
  right
  refine ⟨by omega, ?_⟩
  obtain ⟨m1, m2, m3⟩ := hM1
  obtain ⟨a1, a2, a3, a4, a5⟩ := m3 j (by omega)
  obtain ⟨v, v1, v2, v3⟩ := hS1.2.1.2.2.2 j (by omega)
  replace v1 : v ≤ if j < j then bdp hr w (p + 1) j else bdp hr w p j := v1
  rw [if_neg (Nat.lt_irrefl j)] at v1
  have at10 : f10_menAt g1 B1 (nI p) = some (nI (stands F w p)) := MEN.at10 (fs := fs) (As := A1) ⟨m1, m2, m3⟩ hp
  have c3 := stands_lt F w p
  have bit : (stands F w p).testBit j = (F.testBit j && w j == p) := by
    unfold stands
    rw [mset_bit, decide_eq_true (show j < 8 by omega), Bool.true_and]
  have mono : ∀ d, d < 8 → (if d < j then bdp hr w (p + 1) d else bdp hr w p d) ≤ (if d < j + 1 then bdp hr w (p + 1) d else bdp hr w p d) := by
    intro d hd
    have : bdp hr w p d ≤ bdp hr w (p + 1) d := by
      unfold bdp
      by_cases u : w d < p
      · rw [if_pos u, if_pos (by omega)]; exact Nat.le_refl _
      · rw [if_neg u]; omega
    by_cases u : d < j
    · rw [if_pos u, if_pos (by omega)]; exact Nat.le_refl _
    · rw [if_neg u]
      split
      · exact this
      · exact Nat.le_refl _
  show ∃ (s' : (Nat → Int32) × (Nat → Nat → Int32) × Int32) (t' : (Nat → Nat → Int32) × (Nat → Int32) × Int32), f5_pay_b3 A0 fs (nI p) (nI pn) (f5_pay_l3 A0 fs (nI p) (nI pn) n) f1 A1 (nI j) = f5_pay_l3 A0 fs (nI p) (nI pn) n s'.1 s'.2.1 s'.2.2 ∧ f10_pays_b16 (nI p) (f10_pays_l16 (nI p) m) B1 g1 (nI pn) (nI j) = f10_pays_l16 (nI p) m t'.1 t'.2.1 (nI pn) t'.2.2 ∧ _
  generalize f5_pay_l3 A0 fs (nI p) (nI pn) n = Kn
  generalize f10_pays_l16 (nI p) m = Km
  unfold f5_pay_b3 f10_pays_b16
  simp (maxSteps := 3000000) (disch := omega) only [man9 m1 m2, litI, letv, eqI, leI, ltI, addI, mulI, subI, clI, addneg, at_nI, put_nI, nI_s, orI, shl1I, ifb0, ifb1, Option.bind_some, gx, ux, Nat.add_zero, Nat.zero_add, Nat.not_lt_zero, false_or, or_false, Nat.mul_zero, Nat.zero_mul, if_neg, at10, has10I, bit, a3, v2, v3]
  by_cases q : F.testBit j = true
  · by_cases u : w j = p
    · have hb : bdp hr w p j = 99 * hr := by
        unfold bdp
        rw [if_neg (by omega), Nat.add_zero]
      have hb' : bdp hr w (p + 1) j = 99 * hr + 99 := by
        unfold bdp
        rw [if_pos (by omega)]
      have ub : (w j == p) = true := by simp [u]
      simp (maxSteps := 3000000) (disch := omega) only [q, ub, beq_self_eq_true, Bool.and_self, eq_self, not_true, if_false, if_true, u, iminI, min10I, if_neg, if_pos, litI, letv, eqI, leI, ltI, addI, mulI, subI, clI, addneg, at_nI, put_nI, nI_s, orI, shl1I, ifb0, ifb1, Option.bind_some, gx, ux, Nat.add_zero, Nat.zero_add, Nat.not_lt_zero, false_or, or_false, Nat.mul_zero, Nat.zero_mul]
      refine ⟨(upd f1 3 (f1 3 + nI pn), updA A1 4 (upd (A1 4) j (nI (v + pn))), nI (j + 1)), (updA B1 0 (upd (B1 0) (64 + j) (nI (v + pn))), upd g1 42 (g1 42 + nI pn), nI (j + 1)), rfl, rfl, upd f1 3 (f1 3 + nI pn), updA A1 4 (upd (A1 4) j (nI (v + pn))), updA B1 0 (upd (B1 0) (64 + j) (nI (v + pn))), upd g1 42 (g1 42 + nI pn), rfl, rfl, ?_, ?_, ?_, fun i hi => (updA_n hi).trans (k1 i hi), fun i hi => (upd_n hi).trans (k2 i hi), fun i hi => (upd_n hi).trans (k3 i hi)⟩
      · rw [updA_s]
        exact MEN.congr ⟨m1, m2, m3⟩ rfl (updA_n (by decide)) (fun i h1 h2 => upd_n (by omega))
      · rw [updA_s]
        refine RSb.pay hS1 (by omega) ?_ ?_
        · show v + pn ≤ if j < j + 1 then bdp hr w (p + 1) j else bdp hr w p j
          rw [if_pos (by omega), hb']
          omega
        · intro d hd
          show (if d < j then bdp hr w (p + 1) d else bdp hr w p d) ≤ if d < j + 1 then bdp hr w (p + 1) d else bdp hr w p d
          by_cases d8 : d < 8
          · exact mono d d8
          · rw [if_neg (by omega), if_neg (by omega)]; exact Nat.le_refl _
      · rw [upd_s, upd_s, hd1, Int32.add_assoc]
    · have ub : (w j == p) = false := by simp [u]
      simp (maxSteps := 3000000) (disch := omega) only [q, ub, Bool.and_false, Bool.false_eq_true, not_false_eq_true, eq_self, not_true, if_false, if_true, u]
      exact ⟨(f1, A1, nI (j + 1)), (B1, g1, nI (j + 1)), rfl, rfl, f1, A1, B1, g1, rfl, rfl, ⟨m1, m2, m3⟩, hS1.mono mono, hd1, k1, k2, k3⟩
  · simp (maxSteps := 3000000) (disch := omega) only [q, Bool.false_and, Bool.false_eq_true, not_false_eq_true, if_true]
    exact ⟨(f1, A1, nI (j + 1)), (B1, g1, nI (j + 1)), rfl, rfl, f1, A1, B1, g1, rfl, rfl, ⟨m1, m2, m3⟩, hS1.mono mono, hd1, k1, k2, k3⟩
