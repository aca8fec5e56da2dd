def RRES (n r pos : Nat) (B : Nat → Nat → Int32) (g : Nat → Int32) (P : Option ((Nat → Nat → Int32) × (Nat → Int32) × (Nat → Int32))) (Q : Option (Int32 × (Nat → Nat → Int32) × (Nat → Int32))) : Prop :=
  (∃ A' f' fT' B' g', P = some (A', f', fT') ∧ Q = some (0, B', g') ∧ FLT fT' g' ∧ RFR B' B g' g) ∨
  (∃ A' f' fT' B' g' pos' m' op' vl', P = some (A', f', fT') ∧ Q = some (1, B', g') ∧ CUR n pos' fT' g' ∧ pos < pos' ∧ m' ≤ pos' ∧ RU (r + 1) m' op' vl' A' f' B' g' ∧ RFR B' B g' g)
theorem rule_c {n r m pos : Nat} {b op vl : Nat → Nat} {AT A B : Nat → Nat → Int32} {f fT g : Nat → Int32} (hn : n ≤ 240) (hX : TXT n b AT B) (hC : CUR n pos fT g) (hm : m ≤ pos) (h : RU r m op vl A f B g) : RRES n r pos B g (f2_rule f A fT AT) (f10_readsRule g B) := by
  obtain ⟨hr, h9, h16, hLo, hM, hbd, rows⟩ := h
  have hpn := hC.2.2.2.2.2
  unfold f2_rule f10_readsRule
  rw [tlook_c hX hC, here_c hX hC, Option.bind_some]
  have go : ∀ z : Nat, (z = 119 ∨ z = 114 ∨ z = 115) → chr n b pos = nI z → RRES n r pos B g (f2_rule_b29 AT A f fT (chr n b pos)) (f10_readsRule_b33 B g (chr n b pos)) := by
    intro z hz hc
    have hlt : pos < n := chr_lt hc (by omega)
    unfold f2_rule_b29 f10_readsRule_b33
    rw [h9, h16, hc]
    by_cases r16 : ¬ r < 16
    · have : r = 16 := by omega
      subst this
      rw [if_neg (show ¬ nI 16 < 16 by decide), if_pos (show nI 16 = (16 : Int32) from rfl)]
      simp only [letv]
      obtain ⟨g', w1, w2, w3⟩ := FLT.mk (g := g) (B := B) (AT := AT) (k := 4) (p := g 9) hC.2.2.1 hC.1.2 (by decide)
      rw [wrong_b (P := none) w1]
      left
      refine ⟨A, f, f7_fail fT AT 4, B, g', rfl, rfl, ?_, fun _ _ => rfl, fun j a c d e f h _ => w3 j c⟩
      show FLT (f7_failAt fT AT 4 (fT 3)) g'
      rw [hC.2.1, ← hC.2.2.2.2.1]; exact w2
    replace r16 : r < 16 := Classical.not_not.mp r16
    rw [if_pos (show nI r < 16 by rw [show (16 : Int32) = nI 16 from rfl, ltI (by omega) (by omega)]; exact r16), if_neg (show ¬ nI r = 16 by rw [show (16 : Int32) = nI 16 from rfl, eqI (by omega) (by omega)]; omega), if_neg (nI_in (show r < 16 by omega) (by decide)), ux_nI (by omega), put_nI (by omega) (by decide)]
    simp only [letv]
    rw [upd_n (show (16 : Nat) ≠ 9 by decide), upd_n (show (14 : Nat) ≠ 9 by decide), h16, hLo.1, hM.1, if_neg (nI_in (show r < 16 by omega) (by decide)), ux_nI (by omega), put_nI (by omega) (by decide)]
    generalize hA1 : updA (updA A 2 (upd (A 2) r (nI z))) 3 (upd (updA A 2 (upd (A 2) r (nI z)) 3) r (nI m)) = A1
    generalize hB1 : updA (updA B 20 (upd (B 20) r (nI z))) 21 (upd (updA B 20 (upd (B 20) r (nI z)) 21) r (nI m)) = B1
    generalize hg1 : upd (upd (upd g 9 (g 9 + 1)) 13 0) 15 0 = g1
    have hX1 : TXT n b AT B1 := hX.congr (by rw [← hB1, updA_n (by decide), updA_n (by decide)])
    have hC1 : CUR n (pos + 1) (f7_step fT AT) g1 := (hC.step hlt).congr (by rw [← hg1, upd_n (by decide), upd_n (by decide)]) (by rw [← hg1, upd_n (by decide), upd_n (by decide)])
    have hLo1 : LOR m op vl A1 f := ⟨hLo.1, fun j hj => by rw [← hA1, updA_n (by decide), updA_n (by decide), updA_n (by decide), updA_n (by decide)]; exact hLo.2 j hj⟩
    have hM1 : MOR m op vl B1 g1 := hM.congr (fun _ _ => ⟨rfl, rfl⟩) (by rw [← hB1, updA_n (by decide), updA_n (by decide)]) (by rw [← hg1, upd_n (by decide), upd_n (by decide), upd_n (by decide)])
    have g161 : g1 16 = nI r := by rw [← hg1, upd_n (by decide), upd_n (by decide), upd_n (by decide)]; exact h16
    have hrf : RFR B1 B g1 g := ⟨fun j hj => by rw [← hB1, updA_n (by omega), updA_n (by omega)], fun j a1 a2 a3 a4 a5 a6 a7 => by rw [← hg1, upd_n a6, upd_n a4, upd_n a1]⟩
    have z2 : A1 2 r = nI z ∧ B1 20 r = nI z ∧ A1 3 r = nI m ∧ B1 21 r = nI m := by
      rw [← hA1, ← hB1]
      refine ⟨?_, ?_, ?_, ?_⟩
      · rw [updA_n (by decide), updA_s, upd_s]
      · rw [updA_n (by decide), updA_s, upd_s]
      · rw [updA_s, upd_s]
      · rw [updA_s, upd_s]
    have rows1 : ∀ i, i < r → ∃ z a h e : Nat, (z = 119 ∨ z = 114 ∨ z = 115) ∧ A1 2 i = nI z ∧ B1 20 i = nI z ∧ A1 3 i = nI a ∧ B1 21 i = nI a ∧ A1 4 i = nI h ∧ B1 22 i = nI h ∧ A1 5 i = nI e ∧ B1 23 i = nI e ∧ a ≤ h ∧ h ≤ e ∧ e ≤ m ∧ (z ≠ 115 → ∃ n, WF op vl n true a h) ∧ ∃ n, WF op vl n false h e := by
      intro i hi
      have e : i ≠ r := by omega
      have q := rows i hi
      rw [← hA1, ← hB1, updA_n (show (2 : Nat) ≠ 3 by decide), updA_s, upd_n e, updA_n (show (20 : Nat) ≠ 21 by decide), updA_s, upd_n e, updA_s, upd_n e, updA_n (show (3 : Nat) ≠ 2 by decide), updA_s, upd_n e, updA_n (show (21 : Nat) ≠ 20 by decide), updA_n (show (4 : Nat) ≠ 3 by decide), updA_n (show (4 : Nat) ≠ 2 by decide), updA_n (show (5 : Nat) ≠ 3 by decide), updA_n (show (5 : Nat) ≠ 2 by decide), updA_n (show (22 : Nat) ≠ 21 by decide), updA_n (show (22 : Nat) ≠ 20 by decide), updA_n (show (23 : Nat) ≠ 21 by decide), updA_n (show (23 : Nat) ≠ 20 by decide)]
      exact q
    by_cases h115 : z = 115
    · subst h115
      rw [if_pos (show nI 115 = (115 : Int32) from rfl), if_pos (show nI 115 = (115 : Int32) from rfl)]
      rcases half_c (m0 := m) hn hX1 hC1 r16 h9 g161 hLo1 hM1 (by omega) hbd hz z2.1 z2.2.1 z2.2.2.1 z2.2.2.2 (Nat.le_refl _) (fun q => absurd rfl q) rows1 with ⟨A', f', fT', B', g', y1, y2, y3, y4⟩ | ⟨A', f', fT', B', g', pos', m', op', vl', y1, y2, y3, y4, y5, y6, y7⟩
      · exact Or.inl ⟨A', f', fT', B', g', y1, y2, y3, y4.trans hrf⟩
      · exact Or.inr ⟨A', f', fT', B', g', pos', m', op', vl', y1, y2, y3, by omega, y5, y6, y7.trans hrf⟩
    have nz : ¬ nI z = 115 := by rw [show (115 : Int32) = nI 115 from rfl, eqI (by omega) (by omega)]; exact h115
    rw [if_neg nz, if_neg nz]
    rcases readsSum_c (d := 64) (s := 0) (p := 0) (c := fun _ => 0) (lo := fun _ => 0) (f := f) (A := A1) hn (by decide) (by decide) hX1 hC1 hLo1 hM1 ⟨by rw [← hg1]; exact upd_s, fun i hi => absurd hi (by omega)⟩ (by rw [← hg1, upd_n (by decide)]; exact upd_s) (by omega) (by omega) (Or.inl rfl) with ⟨A2, f2, fT2, B2, g2, y1, y2, y3, y4⟩ | ⟨A2, f2, fT2, B2, g2, pos2, m2, op2, vl2, y1, y2, hC2, hp2, hLo2, hM2, hS2, hop2, h132, hmp2, hw2, hbd2, hlf2, hcf2⟩
    · left
      have y1' : f2_anyOf_rec 64 3 f A1 (f7_step fT AT) AT 0 = some (A2, f2, fT2) := y1
      obtain ⟨A', f', e⟩ := rule87_k (A := A2) (f := f2) (AT := AT) y3.1
      rw [y1', Option.bind_some, e, y2, Option.bind_some, if_pos rfl]
      exact ⟨A', f', fT2, B2, g2, rfl, rfl, y3, y4.rfr.trans hrf⟩
    · have y1' : f2_anyOf_rec 64 3 f A1 (f7_step fT AT) AT 0 = some (A2, f2, fT2) := y1
      rw [y1', Option.bind_some, y2, Option.bind_some, if_neg n10]
      obtain ⟨zz, hw2⟩ := hw2
      have lt2 := WF_lt _ _ _ _ hw2
      have hX2 : TXT n b AT B2 := hX1.congr (hlf2.1 7 (by decide) (by decide))
      have g162 : g2 16 = nI r := (hlf2.2 16 (by decide) (by decide) (by decide) (by decide) (by decide) (by decide)).trans g161
      have rows2 : ∀ i, i < r → ∃ z a h e : Nat, (z = 119 ∨ z = 114 ∨ z = 115) ∧ A2 2 i = nI z ∧ B2 20 i = nI z ∧ A2 3 i = nI a ∧ B2 21 i = nI a ∧ A2 4 i = nI h ∧ B2 22 i = nI h ∧ A2 5 i = nI e ∧ B2 23 i = nI e ∧ a ≤ h ∧ h ≤ e ∧ e ≤ m2 ∧ (z ≠ 115 → ∃ n, WF op2 vl2 n true a h) ∧ ∃ n, WF op2 vl2 n false h e := by
        intro i hi
        obtain ⟨z', a', h', e', q1, q2, q3, q4, q5, q6, q7, q8, q9, q10, q11, q12, q13, w, q14⟩ := rows1 i hi
        rw [hcf2.1 2 (by decide) (by decide), hcf2.1 3 (by decide) (by decide), hcf2.1 4 (by decide) (by decide), hcf2.1 5 (by decide) (by decide), hlf2.1 20 (by decide) (by decide), hlf2.1 21 (by decide) (by decide), hlf2.1 22 (by decide) (by decide), hlf2.1 23 (by decide) (by decide)]
        refine ⟨z', a', h', e', q1, q2, q3, q4, q5, q6, q7, q8, q9, q10, q11, by omega, fun q => ?_, w, WF_congr _ _ _ _ q14 fun j a c => hop2 j (by omega)⟩
        obtain ⟨w, hw⟩ := q13 q
        exact ⟨w, WF_congr _ _ _ _ hw fun j a c => hop2 j (by omega)⟩
      rcases half_c (z := z) (m0 := m) hn hX2 hC2 r16 ((hcf2.2 9 (by decide)).trans h9) g162 hLo2 hM2 (by omega) (bnd_on hbd hop2 hbd2) hz (by rw [hcf2.1 2 (by decide) (by decide)]; exact z2.1) (by rw [hlf2.1 20 (by decide) (by decide)]; exact z2.2.1) (by rw [hcf2.1 3 (by decide) (by decide)]; exact z2.2.2.1) (by rw [hlf2.1 21 (by decide) (by decide)]; exact z2.2.2.2) (by omega) (fun _ => ⟨zz, hw2⟩) rows2 with ⟨A', f', fT', B', g', y1, y2, y3, y4⟩ | ⟨A', f', fT', B', g', pos', m', op', vl', y1, y2, y3, y4, y5, y6, y7⟩
      · exact Or.inl ⟨A', f', fT', B', g', y1, y2, y3, y4.trans (hlf2.rfr.trans hrf)⟩
      · exact Or.inr ⟨A', f', fT', B', g', pos', m', op', vl', y1, y2, y3, by omega, y5, y6, y7.trans (hlf2.rfr.trans hrf)⟩
  by_cases c1 : chr n b pos = 119
  · rw [if_pos c1, if_pos c1]; exact go 119 (by decide) c1
  rw [if_neg c1, if_neg c1]
  by_cases c2 : chr n b pos = 114
  · rw [if_pos c2, if_pos c2]; exact go 114 (by decide) c2
  rw [if_neg c2, if_neg c2]
  by_cases c3 : chr n b pos = 115
  · rw [if_pos c3, if_pos c3]; exact go 115 (by decide) c3
  rw [if_neg c3, if_neg c3]
  left
  obtain ⟨g', w1, w2, w3⟩ := wrong_f (AT := AT) (B := B) hC
  rw [w1]
  exact ⟨A, f, _, B, g', rfl, rfl, w2, w3.rfr⟩
