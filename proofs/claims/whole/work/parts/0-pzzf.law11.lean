/-- the condition of a rule, with its round brackets -/
theorem cond_c {n m pos : Nat} {b op vl : Nat → Nat} {AT A B : Nat → Nat → Int32} {f fT g : Nat → Int32} (hn : n ≤ 240) (hX : TXT n b AT B) (hC : CUR n pos fT g) (hLo : LOR m op vl A f) (hM : MOR m op vl B g) (hm : m ≤ pos) (hbd : ∀ j, j < m → op j ≤ 12 ∧ vl j < 1048576) :
    (chr n b pos ≠ 40 ∧ ∃ g', f10_readsCondition g B = some (0, B, g') ∧ FLT (f7_fail fT AT 1) g' ∧ LFR B B g' g) ∨
    (chr n b pos = 40 ∧ ((∃ A' f' fT1 fT' B' g', f2_anyOf_rec 64 0 f A (f7_step fT AT) AT 1 = some (A', f', fT1) ∧ (∃ v, f7_take fT1 AT 41 = some (v, fT')) ∧ f10_readsCondition g B = some (0, B', g') ∧ FLT fT' g' ∧ LFR B' B g' g) ∨
      ∃ A' f' fT1 fT' B' g' pos' m' op' vl', f2_anyOf_rec 64 0 f A (f7_step fT AT) AT 1 = some (A', f', fT1) ∧ (∃ v, f7_take fT1 AT 41 = some (v, fT')) ∧ f10_readsCondition g B = some (1, B', g') ∧ CUR n pos' fT' g' ∧ pos < pos' ∧ LOR m' op' vl' A' f' ∧ MOR m' op' vl' B' g' ∧ (∀ j, j < m → op' j = op j ∧ vl' j = vl j) ∧ m' + pos ≤ m + pos' ∧ (∃ z, WF op' vl' z false m m') ∧ (∀ j, m ≤ j → j < m' → op' j ≤ 12 ∧ vl' j < 1048576) ∧ LFR B' B g' g ∧ CFR A' A f' f)) := by
  have hNF := NF_ge
  have hpn := hC.2.2.2.2.2
  unfold f10_readsCondition
  rw [here_c hX hC, Option.bind_some]
  by_cases h40 : ¬ chr n b pos = 40
  · left
    rw [if_neg h40]
    exact ⟨h40, wrong_f hC⟩
  replace h40 : chr n b pos = 40 := Classical.not_not.mp h40
  right
  have hlt := chr_lt (c := 40) h40 (by omega)
  rw [if_pos h40]
  simp only [letv]
  generalize hg0 : upd (upd g 13 0) 15 0 = g0
  have hlf0 : LFR B B g0 g := by
    rw [← hg0]
    exact ⟨fun _ _ _ => rfl, fun j a1 a2 a3 a4 a5 a6 => by rw [upd_n a6, upd_n a4]⟩
  have hC0 : CUR n pos fT g0 := hC.congr (by rw [← hg0, upd_n (by decide), upd_n (by decide)]) (by rw [← hg0, upd_n (by decide), upd_n (by decide)])
  obtain ⟨B1, g1, w1, w2, w3, w4, w5, w6, w7⟩ := opens_c (x := 13) (s := 0) (p := 0) (c := fun _ => 0) (lo := fun _ => 0) (g := g0) hX hC0 (hM.congr (fun _ _ => ⟨rfl, rfl⟩) rfl (by rw [← hg0, upd_n (by decide), upd_n (by decide)])) ⟨by rw [← hg0]; exact upd_s, fun i hi => absurd hi (by omega)⟩ (by rw [← hg0, upd_n (by decide)]; exact upd_s) (by decide) hlt (by decide) (by decide)
  have w1' : f10_opens g0 B 13 = some (1, B1, g1) := w1
  rw [w1', Option.bind_some, if_neg n10, show f10_readsCondition_l40 NF (1, B1, g1).2.1 (1, B1, g1).2.2 = BT NF B1 g1 from rfl]
  refine ⟨h40, ?_⟩
  have key : CANY n b AT 0 1 64 1 := any_c hn (all_c hn (tests_all hn 5 1 62 (by omega) (by omega)))
  rcases key m 1 (pos + 1) NF op vl _ _ A B1 f (f7_step fT AT) g1 ⟨w2, w3, hLo, w4, w5, w6, by omega, by omega, hbd, by omega, by show 6 < pt (fun _ => 0) 0 13 0; rw [pt_s]; decide, by omega⟩ (Or.inl (by show pt (fun _ => 0) 0 13 0 = 13; rw [pt_s])) with ⟨A2, f2, fT2, B2, g2, z1, z2, z3, z4⟩ | ⟨A2, f2, fT2, B2, g2, pos2, m2, q2, j2, k2, op2, vl2, vr2, c2, lo2, z1, z2, z4, z5, z6⟩
  · left
    exact ⟨A2, f2, fT2, fT2, B2, g2, z1, ⟨0, take_dead z3.1⟩, z2, z3, z4.trans (w7.trans hlf0)⟩
  · have hX2 : TXT n b AT B2 := z4.txt w2
    obtain ⟨hC2, hp2, hj2, hk2, hLo2, hM2, hS2, hP2, hop2, hst2, h132, hmp2, hw2, hbd2, hlf2, hcf2⟩ := z4
    have hpn2 := hC2.2.2.2.2.2
    obtain ⟨j2, rfl⟩ : ∃ j, j2 = j + 1 := ⟨j2 - 1, by omega⟩
    have c13 : c2 0 = 13 := by rw [(hst2 0 (by omega)).1, pt_s]
    have eL : LD (j2 + 1) k2 B2 g2 = f10_readsCondition_b92 (f10_readsCondition_l40 k2) (f10_readsCondition_l92 (f10_readsCondition_l40 k2) j2) B2 g2 := rfl
    rw [z2, eL]
    unfold f10_readsCondition_b92
    rw [here_c hX2 hC2, Option.bind_some, Option.bind_some, Option.bind_some]
    by_cases h41 : chr n b pos2 = 41
    · right
      have hlt2 := chr_lt (c := 41) h41 (by omega)
      obtain ⟨B3, g3, r1, r2, r3, r4, r5⟩ := land_c (L := 1) (s := 1) (m := m2) (by decide) (by omega) (by omega) (Or.inr (by show ¬ (c2 0 = 11 ∨ 1 = 1 ∧ c2 0 = 12); rw [c13]; decide)) q2 NF vr2 B2 g2 (by have := hP2.1; omega) hM2 hS2 hP2
      have r1' : f10_lands g2 B2 1 = some (B3, g3) := r1
      rw [if_pos h41, r1', Option.bind_some]
      simp only [letv, Option.bind_some]
      have e15 : upd (upd (upd g3 15 (g3 15 - 1)) 13 (upd g3 15 (g3 15 - 1) 13 - 1)) 9 (upd (upd g3 15 (g3 15 - 1)) 13 (upd g3 15 (g3 15 - 1) 13 - 1) 9 + 1) 15 = 0 := by
        rw [upd_n (by decide), upd_n (by decide), upd_s, r3.1]; decide
      rw [e15, if_pos rfl]
      refine ⟨A2, f2, fT2, f7_step fT2 AT, B3, _, pos2 + 1, m2, op2, vl2, z1, ?_, rfl, (hC2.step hlt2).congr ?_ ?_, by omega, hLo2, r2.congr (fun _ _ => ⟨rfl, rfl⟩) rfl ?_, hop2, by omega, hw2, hbd2, LFR.trans (B' := B2) (g' := g2) ⟨fun j a _ => r4 j a, fun j a1 a2 a3 a4 a5 a6 => ?_⟩ (hlf2.trans (w7.trans hlf0)), hcf2⟩
      · refine ⟨1, ?_⟩
        rw [take_fine hC2.2.2.1, tlook_c hX2 hC2, if_pos h41]
        rfl
      · rw [upd_s, upd_s, upd_n (by decide), upd_n (by decide), r5 9 (by decide)]
      · rw [upd_n (by decide), upd_n (by decide), upd_n (by decide), upd_n (by decide)]; exact r5 10 (by decide)
      · rw [upd_n (by decide), upd_n (by decide), upd_n (by decide)]
      · rw [upd_n a1, upd_n a4, upd_n a6]; exact r5 j a6
    · left
      obtain ⟨g', y1, y2, y3⟩ := wrong_f (AT := AT) (B := B2) hC2
      rw [if_neg h41, if_neg z5, if_neg (z6 rfl), y1]
      refine ⟨A2, f2, fT2, f7_fail fT2 AT 1, B2, g', z1, ?_, rfl, y2, y3.trans (hlf2.trans (w7.trans hlf0))⟩
      refine ⟨0, ?_⟩
      rw [take_fine hC2.2.2.1, tlook_c hX2 hC2, if_neg h41]
      rfl
