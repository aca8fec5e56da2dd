/-- the rules read so far: class and reference -/
def RU (r m : Nat) (op vl : Nat → Nat) (A : Nat → Nat → Int32) (f : Nat → Int32) (B : Nat → Nat → Int32) (g : Nat → Int32) : Prop :=
  r ≤ 16 ∧ f 9 = nI r ∧ g 16 = nI r ∧ LOR m op vl A f ∧ MOR m op vl B g ∧ (∀ j, j < m → op j ≤ 12 ∧ vl j < 1048576) ∧ ∀ i, i < r → ∃ z a h e : Nat, (z = 119 ∨ z = 114 ∨ z = 115) ∧ A 2 i = nI z ∧ B 20 i = nI z ∧ A 3 i = nI a ∧ B 21 i = nI a ∧ A 4 i = nI h ∧ B 22 i = nI h ∧ A 5 i = nI e ∧ B 23 i = nI e ∧ a ≤ h ∧ h ≤ e ∧ e ≤ m ∧ (z ≠ 115 → ∃ n, WF op vl n true a h) ∧ ∃ n, WF op vl n false h e
def RFR (B' B : Nat → Nat → Int32) (g' g : Nat → Int32) : Prop := (∀ j, j < 18 ∨ 23 < j → B' j = B j) ∧ ∀ j, j ≠ 9 → j ≠ 11 → j ≠ 12 → j ≠ 13 → j ≠ 14 → j ≠ 15 → j ≠ 16 → g' j = g j
theorem LFR.rfr {B' B : Nat → Nat → Int32} {g' g : Nat → Int32} (h : LFR B' B g' g) : RFR B' B g' g := ⟨fun j hj => h.1 j (by omega) (by omega), fun j a b c d e f _ => h.2 j a b c d e f⟩
theorem RFR.trans {B B' B'' : Nat → Nat → Int32} {g g' g'' : Nat → Int32} (h : RFR B'' B' g'' g') (k : RFR B' B g' g) : RFR B'' B g'' g := ⟨fun j a => (h.1 j a).trans (k.1 j a), fun j a b c d e f l => (h.2 j a b c d e f l).trans (k.2 j a b c d e f l)⟩
/-- the end of a rule's reading never fails to answer -/
theorem rule124_k (A AT : Nat → Nat → Int32) (f fT : Nat → Int32) : ∃ A' f', f2_rule_b124 AT A f fT = some (A', f', fT) := ⟨_, _, rfl⟩
theorem rule87_k {A AT : Nat → Nat → Int32} {f fT : Nat → Int32} (h : fT 4 ≠ 0) : ∃ A' f', f2_rule_b87 AT A f fT = some (A', f', fT) := by
  unfold f2_rule_b87
  simp only [letv]
  rw [take_dead h, Option.bind_some, if_pos rfl]
  exact rule124_k _ _ _ _
/-- from the half on: the condition, and the row is done -/
theorem half_c {n r m0 m pos z : Nat} {b op vl : Nat → Nat} {AT A B : Nat → Nat → Int32} {f fT g : Nat → Int32} (hn : n ≤ 240) (hX : TXT n b AT B) (hC : CUR n pos fT g) (hr : r < 16) (h9 : f 9 = nI r) (h16 : g 16 = nI r) (hLo : LOR m op vl A f) (hM : MOR m op vl B g) (hm : m ≤ pos) (hbd : ∀ j, j < m → op j ≤ 12 ∧ vl j < 1048576) (hz : z = 119 ∨ z = 114 ∨ z = 115) (hz1 : A 2 r = nI z) (hz2 : B 20 r = nI z) (ha1 : A 3 r = nI m0) (ha2 : B 21 r = nI m0) (h0m : m0 ≤ m) (hw : z ≠ 115 → ∃ n, WF op vl n true m0 m)
    (rows : ∀ i, i < r → ∃ z a h e : Nat, (z = 119 ∨ z = 114 ∨ z = 115) ∧ A 2 i = nI z ∧ B 20 i = nI z ∧ A 3 i = nI a ∧ B 21 i = nI a ∧ A 4 i = nI h ∧ B 22 i = nI h ∧ A 5 i = nI e ∧ B 23 i = nI e ∧ a ≤ h ∧ h ≤ e ∧ e ≤ m ∧ (z ≠ 115 → ∃ n, WF op vl n true a h) ∧ ∃ n, WF op vl n false h e) :
    (∃ A' f' fT' B' g', f2_rule_b87 AT A f fT = some (A', f', fT') ∧ f10_readsRule_b110 B g = some (0, B', g') ∧ FLT fT' g' ∧ RFR B' B g' g) ∨
    (∃ A' f' fT' B' g' pos' m' op' vl', f2_rule_b87 AT A f fT = some (A', f', fT') ∧ f10_readsRule_b110 B g = some (1, B', g') ∧ CUR n pos' fT' g' ∧ pos < pos' ∧ m' ≤ pos' ∧ RU (r + 1) m' op' vl' A' f' B' g' ∧ RFR B' B g' g) := by
  have hpn := hC.2.2.2.2.2
  unfold f2_rule_b87 f10_readsRule_b110
  simp only [letv]
  rw [h9, h16, hLo.1, hM.1, if_neg (nI_in (show r < 16 by omega) (by decide)), ux_nI (by omega), put_nI (by omega) (by decide)]
  generalize hA1 : updA A 4 (upd (A 4) r (nI m)) = A1
  generalize hB1 : updA B 22 (upd (B 22) r (nI m)) = B1
  have hX1 : TXT n b AT B1 := hX.congr (by rw [← hB1, updA_n (by decide)])
  have hLo1 : LOR m op vl A1 f := ⟨hLo.1, fun j hj => by rw [← hA1, updA_n (by decide), updA_n (by decide)]; exact hLo.2 j hj⟩
  have hM1 : MOR m op vl B1 g := hM.congr (fun _ _ => ⟨rfl, rfl⟩) (by rw [← hB1, updA_n (by decide)]) rfl
  have hrf1 : RFR B1 B g g := ⟨fun j hj => by rw [← hB1, updA_n (by omega)], fun _ _ _ _ _ _ _ _ => rfl⟩
  rw [take_fine hC.2.2.1, tlook_c hX1 hC]
  rcases cond_c hn hX1 hC hLo1 hM1 hm hbd with ⟨h40, g', y1, y2, y3⟩ | ⟨h40, ⟨A2, f2, fT1, fT2, B2, g2, y1, ⟨vv, y2⟩, y3, y4, y5⟩ | ⟨A2, f2, fT1, fT2, B2, g2, pos2, m2, op2, vl2, y1, ⟨vv, y2⟩, y3, hC2, hp2, hLo2, hM2, hop2, hmp2, hw2, hbd2, hlf2, hcf2⟩⟩
  · left
    rw [if_neg h40, y1]
    simp only [letv, Option.bind_some]
    rw [if_pos trivial, if_pos trivial]
    obtain ⟨A', f', e⟩ := rule124_k A1 AT f (f7_fail fT AT 1)
    exact ⟨A', f', _, B1, g', e, rfl, y2, y3.rfr.trans hrf1⟩
  · left
    rw [if_pos h40, y3]
    simp only [letv, Option.bind_some]
    rw [if_neg n10, if_pos trivial, y1, Option.bind_some, y2, Option.bind_some]
    obtain ⟨A', f', e⟩ := rule124_k A2 AT f2 fT2
    exact ⟨A', f', _, B2, g2, e, rfl, y4, y5.rfr.trans hrf1⟩
  · right
    have hpn2 := hC2.2.2.2.2.2
    have f92 : f2 9 = nI r := (hcf2.2 9 (by decide)).trans h9
    have g162 : g2 16 = nI r := (hlf2.2 16 (by decide) (by decide) (by decide) (by decide) (by decide) (by decide)).trans h16
    obtain ⟨zz, hw2⟩ := hw2
    have lt2 := WF_lt _ _ _ _ hw2
    rw [if_pos h40, y3]
    simp only [letv, Option.bind_some]
    rw [if_neg n10, if_neg n10, y1, Option.bind_some, y2, Option.bind_some]
    unfold f2_rule_b124
    simp only [letv]
    rw [f92, g162, if_neg (nI_in (show r < 16 by omega) (by decide)), ux_nI (by omega), put_nI (by omega) (by decide), nI_s, hLo2.1, hM2.1]
    refine ⟨updA A2 5 (upd (A2 5) r (nI m2)), upd f2 9 (nI (r + 1)), fT2, updA B2 23 (upd (B2 23) r (nI m2)), upd g2 16 (nI (r + 1)), pos2, m2, op2, vl2, rfl, rfl, hC2.congr (upd_n (by decide)) (upd_n (by decide)), hp2, by omega, ⟨by omega, upd_s, upd_s, ⟨(upd_n (by decide)).trans hLo2.1, fun j hj => by rw [updA_n (by decide), updA_n (by decide)]; exact hLo2.2 j hj⟩, hM2.congr (fun _ _ => ⟨rfl, rfl⟩) (updA_n (by decide)) (upd_n (by decide)), bnd_on hbd hop2 hbd2, fun i hi => ?_⟩, RFR.trans (B' := B2) (g' := g2) ⟨fun j hj => updA_n (by omega), fun j a1 a2 a3 a4 a5 a6 a7 => upd_n a7⟩ (hlf2.rfr.trans hrf1)⟩
    have eA : ∀ j, j = 2 ∨ j = 3 → updA A2 5 (upd (A2 5) r (nI m2)) j = A j := fun j hj => by rw [updA_n (by omega), hcf2.1 j (by omega) (by omega), ← hA1, updA_n (by omega)]
    have eB : ∀ j, j = 20 ∨ j = 21 → updA B2 23 (upd (B2 23) r (nI m2)) j = B j := fun j hj => by rw [updA_n (by omega), hlf2.1 j (by omega) (by omega), ← hB1, updA_n (by omega)]
    have e4 : updA A2 5 (upd (A2 5) r (nI m2)) 4 = upd (A 4) r (nI m) := by rw [updA_n (by decide), hcf2.1 4 (by decide) (by decide), ← hA1, updA_s]
    have e22 : updA B2 23 (upd (B2 23) r (nI m2)) 22 = upd (B 22) r (nI m) := by rw [updA_n (by decide), hlf2.1 22 (by decide) (by decide), ← hB1, updA_s]
    have e5 : A2 5 = A 5 := by rw [hcf2.1 5 (by decide) (by decide), ← hA1, updA_n (by decide)]
    have e23 : B2 23 = B 23 := by rw [hlf2.1 23 (by decide) (by decide), ← hB1, updA_n (by decide)]
    rw [eA 2 (Or.inl rfl), eA 3 (Or.inr rfl), eB 20 (Or.inl rfl), eB 21 (Or.inr rfl), e4, e22, updA_s, updA_s, e5, e23]
    by_cases e : i = r
    · subst e
      refine ⟨z, m0, m, m2, hz, hz1, hz2, ha1, ha2, upd_s, upd_s, upd_s, upd_s, h0m, by omega, Nat.le_refl _, fun q => ?_, zz, hw2⟩
      obtain ⟨w, hw⟩ := hw q
      exact ⟨w, WF_congr _ _ _ _ hw fun j a c => hop2 j c⟩
    · obtain ⟨z', a', h', e', q1, q2, q3, q4, q5, q6, q7, q8, q9, q10, q11, q12, q13, w, q14⟩ := rows i (by omega)
      rw [upd_n e, upd_n e, upd_n e, upd_n e]
      refine ⟨z', a', h', e', q1, q2, q3, q4, q5, q6, q7, q8, q9, q10, q11, by omega, fun q => ?_, w, WF_congr _ _ _ _ q14 fun j a c => hop2 j (by omega)⟩
      obtain ⟨w, hw⟩ := q13 q
      exact ⟨w, WF_congr _ _ _ _ hw fun j a c => hop2 j (by omega)⟩
