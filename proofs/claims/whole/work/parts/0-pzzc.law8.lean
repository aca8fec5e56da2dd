theorem opens2_c {fT : Nat → Int32} {AT : Nat → Nat → Int32} {p : Nat} (hp : p < 6) : f2_opens fT AT (nI p) = some (1, f7_step fT AT) := by
  unfold f2_opens
  rw [if_pos (show nI p < 6 by rw [show (6 : Int32) = nI 6 from rfl, ltI (by omega) (by omega)]; exact hp)]
  rfl
theorem opens2_f {fT : Nat → Int32} {AT : Nat → Nat → Int32} : f2_opens fT AT (nI 6) = some (0, f7_fail fT AT 5) := by
  unfold f2_opens
  rw [if_neg (show ¬ nI 6 < 6 by decide)]
  rfl
theorem trest_k {AT : Nat → Nat → Int32} {d p : Nat} (ih3 : DEAD AT d 3 p) (A : Nat → Nat → Int32) (f fT : Nat → Int32) (h : fT 4 ≠ 0) : ∃ A' f' fT', (if f7_look fT AT = 60 then f2_test_b102 (f2_anyOf_rec d) AT (nI p) A f fT (f7_look fT AT) else if f7_look fT AT = 62 then f2_test_b102 (f2_anyOf_rec d) AT (nI p) A f fT (f7_look fT AT) else if f7_look fT AT = 61 then f2_test_b102 (f2_anyOf_rec d) AT (nI p) A f fT (f7_look fT AT) else letv (f7_fail fT AT 1) fun z_5 => some (A, f, z_5)) = some (A', f', fT') ∧ KP fT' fT := by
  obtain ⟨A2, f2, fT2, e2, k2⟩ := test102_k ih3 A f fT (f7_look fT AT) h
  rw [e2]
  by_cases q1 : f7_look fT AT = 60
  · rw [if_pos q1]; exact ⟨_, _, _, rfl, k2⟩
  by_cases q2 : f7_look fT AT = 62
  · rw [if_neg q1, if_pos q2]; exact ⟨_, _, _, rfl, k2⟩
  by_cases q3 : f7_look fT AT = 61
  · rw [if_neg q1, if_neg q2, if_pos q3]; exact ⟨_, _, _, rfl, k2⟩
  rw [if_neg q1, if_neg q2, if_neg q3]
  exact ⟨_, _, _, rfl, fail_kp h⟩
theorem test_c {n d p : Nat} {b : Nat → Nat} {AT : Nat → Nat → Int32} (hn : n ≤ 240) (hp : p ≤ 6) (hd : 3 * (7 - p) ≤ d) (ih2 : p < 6 → CTEST n b AT d (p + 1)) (ih0 : p < 6 → CANY n b AT 0 1 d (p + 1)) : CTEST n b AT (d + 1) p := by
  intro m s pos k op vl c lo A B f fT g hP
  obtain ⟨hX, hC, hLo, hM, hS, h13, hm, hs, hbd, hs0, h6, hk⟩ := hP
  have hpn := hC.2.2.2.2.2
  have hNF := NF_ge
  obtain ⟨k, rfl⟩ : ∃ j, k = j + 1 := ⟨k - 1, by omega⟩
  have eA : f2_anyOf_rec (d + 1) 2 f A fT AT (nI p) = f2_test (f2_anyOf_rec d) f A fT AT (nI p) := rfl
  have eB : BT (k + 1) B g = f10_readsCondition_b40 (f10_readsCondition_l40 k) B g := rfl
  rw [eA, eB]
  unfold f2_test f10_readsCondition_b40
  rw [tlook_c hX hC, here_c hX hC, Option.bind_some, Option.bind_some]
  by_cases h33 : chr n b pos = 33
  · have hlt := chr_lt (c := 33) h33 (by omega)
    rw [if_pos h33, if_pos h33]
    unfold f10_readsCondition_b58 f10_readsCondition_b75
    rw [here_c hX hC, Option.bind_some, if_pos h33]
    rcases (show p = 6 ∨ p < 6 by omega) with rfl | hp6
    · left
      obtain ⟨g', w1, w2, w3⟩ := opens_f (AT := AT) (B := B) (x := 10) hC h13
      rw [opens2_f, Option.bind_some, if_pos rfl, w1, Option.bind_some, if_pos rfl]
      exact ⟨A, f, _, B, g', rfl, rfl, w2, w3⟩
    · obtain ⟨B1, g1, w1, w2, w3, w4, w5, w6, w7⟩ := opens_c (x := 10) hX hC hM hS h13 (by omega) hlt hp6 (by decide)
      have w1' : f10_opens g B 10 = some (1, B1, g1) := w1
      rw [opens2_c hp6, Option.bind_some, if_neg n10, w1', Option.bind_some, if_neg n10, nI_s, show f10_readsCondition_l40 k (1, B1, g1).2.1 (1, B1, g1).2.2 = BT k B1 g1 from rfl]
      rcases ih2 hp6 m (s + 1) (pos + 1) k op vl (pt c s 10) (pt lo s 0) A B1 f (f7_step fT AT) g1 ⟨w2, w3, hLo, w4, w5, w6, by omega, by omega, hbd, by omega, by rw [Nat.add_sub_cancel, pt_s]; decide, by omega⟩ with ⟨A2, f2, fT2, B2, g2, z1, z2, z3, z4⟩ | ⟨A2, f2, fT2, B2, g2, pos2, m2, K, j2, k2, op2, vl2, c2, lo2, z1, z2, z3, z4⟩
      · left
        obtain ⟨A3, f3, e3, -⟩ := order_k f2 A2 3 0
        rw [z1, Option.bind_some, e3, Option.bind_some]
        exact ⟨_, _, fT2, B2, g2, rfl, z2, z3, z4.trans w7⟩
      · right
        obtain ⟨hC2, hp2, hj2, hk2, hLo2, hM2, hS2, hP2, hop2, hst2, h132, hmp2, ⟨z, hw2⟩, hbd2, hlf2, hcf2⟩ := z4
        have hpn2 := hC2.2.2.2.2.2
        obtain ⟨K, rfl⟩ : ∃ j, K = j + 1 := ⟨K - 1, by omega⟩
        have c10 : c2 s = 10 := by rw [(hst2 s (by omega)).1, pt_s]
        obtain ⟨B3, g3, r1, r2, r3, r4, r5, r6⟩ := ends_1 (j := j2) (k := k2) (K := K) hM2 hS2 (by omega) (by omega) c10 h132
        have old : ∀ j, j < m2 → pt op2 m2 10 j = op2 j ∧ pt vl2 m2 0 j = vl2 j := fun j hj => ⟨pt_n (by omega), pt_n (by omega)⟩
        obtain ⟨A3, f3, e1, e2, e3⟩ := order_c (o := 10) (v := 0) (hLo2.congr old) (by omega) pt_s pt_s
        have e1' : f2_order f2 A2 3 0 = some (nI m2, A3, f3) := e1
        have lt2 := WF_lt _ _ _ _ hw2
        rw [z1, Option.bind_some, e1', Option.bind_some, z2, r1]
        have hbd3 : ∀ j, m ≤ j → j < m2 + 1 → pt op2 m2 10 j ≤ 12 ∧ pt vl2 m2 0 j < 1048576 := fun j a c => by
          by_cases e : j = m2
          · subst e; rw [pt_s, pt_s]; exact ⟨by decide, by decide⟩
          · rw [(old j (by omega)).1, (old j (by omega)).2]; exact hbd2 j a (by omega)
        have hop3 : ∀ j, j < m → pt op2 m2 10 j = op j ∧ pt vl2 m2 0 j = vl j := fun j hj => by rw [(old j (by omega)).1, (old j (by omega)).2]; exact hop2 j hj
        refine ⟨A3, f3, fT2, B3, g3, pos2, m2 + 1, K, j2, k2, pt op2 m2 10, pt vl2 m2 0, c2, lo2, rfl, rfl, by omega, ⟨hC2.congr (r6 9 (by decide) (by decide) (by decide)) (r6 10 (by decide) (by decide) (by decide)), by omega, hj2, hk2, e2, r2, r3, PJ.zero (bnd_on hbd hop3 hbd3), hop3, fun i hi => ?_, r4, by omega, ⟨z + 1, Or.inr (Or.inl ⟨WF_congr _ _ _ _ hw2 fun j a c => old j c, ?_, by omega⟩)⟩, hbd3, LFR.trans (B' := B2) (g' := g2) ⟨fun j a _ => r5 j a, fun j a1 a2 a3 a4 a5 a6 => r6 j a4 a5 a6⟩ (hlf2.trans w7), e3.trans hcf2⟩⟩
        · rw [(hst2 i (by omega)).1, (hst2 i (by omega)).2, pt_n (by omega), pt_n (by omega)]; exact ⟨rfl, rfl⟩
        · rw [Nat.add_sub_cancel, pt_s]
  rw [if_neg h33, if_neg h33]
  by_cases h40 : chr n b pos = 40
  · have hlt := chr_lt (c := 40) h40 (by omega)
    rw [if_pos h40, if_pos h40]
    unfold f10_readsCondition_b58 f10_readsCondition_b75
    rw [here_c hX hC, Option.bind_some, if_neg h33]
    rcases (show p = 6 ∨ p < 6 by omega) with rfl | hp6
    · left
      obtain ⟨g', w1, w2, w3⟩ := opens_f (AT := AT) (B := B) (x := 13) hC h13
      rw [opens2_f, Option.bind_some, if_pos rfl, w1, Option.bind_some, if_pos rfl]
      exact ⟨A, f, _, B, g', rfl, rfl, w2, w3⟩
    · obtain ⟨B1, g1, w1, w2, w3, w4, w5, w6, w7⟩ := opens_c (x := 13) hX hC hM hS h13 (by omega) hlt hp6 (by decide)
      have w1' : f10_opens g B 13 = some (1, B1, g1) := w1
      rw [opens2_c hp6, Option.bind_some, if_neg n10, w1', Option.bind_some, if_neg n10, nI_s, show f10_readsCondition_l40 k (1, B1, g1).2.1 (1, B1, g1).2.2 = BT k B1 g1 from rfl]
      rcases ih0 hp6 m (s + 1) (pos + 1) k op vl (pt c s 13) (pt lo s 0) A B1 f (f7_step fT AT) g1 ⟨w2, w3, hLo, w4, w5, w6, by omega, by omega, hbd, by omega, by rw [Nat.add_sub_cancel, pt_s]; decide, by omega⟩ (Or.inl (by rw [Nat.add_sub_cancel, pt_s])) with ⟨A2, f2, fT2, B2, g2, z1, z2, z3, z4⟩ | ⟨A2, f2, fT2, B2, g2, pos2, m2, q2, j2, k2, op2, vl2, vr2, c2, lo2, z1, z2, z4, z5, z6⟩
      · left
        rw [z1, Option.bind_some, take_dead z3.1, Option.bind_some]
        exact ⟨_, _, fT2, B2, g2, rfl, z2, z3, z4.trans w7⟩
      · obtain ⟨hC2, hp2, hj2, hk2, hLo2, hM2, hS2, hP2, hop2, hst2, h132, hmp2, hw2, hbd2, hlf2, hcf2⟩ := z4
        have hpn2 := hC2.2.2.2.2.2
        have hX2 : TXT n b AT B2 := w2.congr (hlf2.1 7 (by decide) (by decide))
        obtain ⟨j2, rfl⟩ : ∃ j, j2 = j + 1 := ⟨j2 - 1, by omega⟩
        have c13 : c2 s = 13 := by rw [(hst2 s (by omega)).1, pt_s]
        have eL : LD (j2 + 1) k2 B2 g2 = f10_readsCondition_b92 (f10_readsCondition_l40 k2) (f10_readsCondition_l92 (f10_readsCondition_l40 k2) j2) B2 g2 := rfl
        rw [z1, Option.bind_some, z2, eL]
        unfold f10_readsCondition_b92
        rw [take_fine hC2.2.2.1, tlook_c hX2 hC2, here_c hX2 hC2, Option.bind_some, Option.bind_some, Option.bind_some]
        by_cases h41 : chr n b pos2 = 41
        · right
          have hlt2 := chr_lt (c := 41) h41 (by omega)
          obtain ⟨B3, g3, r1, r2, r3, r4, r5⟩ := land_c (L := 1) (s := s + 1) (m := m2) (by decide) (by omega) (by omega) (Or.inr (by rw [Nat.add_sub_cancel, c13]; decide)) q2 NF vr2 B2 g2 (by have := hP2.1; omega) hM2 hS2 hP2
          have r1' : f10_lands g2 B2 1 = some (B3, g3) := r1
          rw [if_pos h41, if_pos h41, r1', Option.bind_some]
          simp only [letv, Option.bind_some]
          have e15 : upd (upd (upd g3 15 (g3 15 - 1)) 13 (upd g3 15 (g3 15 - 1) 13 - 1)) 9 (upd (upd g3 15 (g3 15 - 1)) 13 (upd g3 15 (g3 15 - 1) 13 - 1) 9 + 1) 15 = nI s := by
            rw [upd_n (by decide), upd_n (by decide), upd_s, r3.1]; exact subI (a := s + 1) (b := 1) (by omega)
          rw [e15, if_neg (show ¬ nI s = 0 by rw [show (0 : Int32) = nI 0 from rfl, eqI (by omega) (by omega)]; omega)]
          refine ⟨A2, f2, f7_step fT2 AT, B3, _, pos2 + 1, m2, NF, j2, k2, op2, vl2, c2, lo2, rfl, rfl, by omega, ⟨(hC2.step hlt2).congr ?_ ?_, by omega, by omega, by omega, hLo2, r2.congr (fun _ _ => ⟨rfl, rfl⟩) rfl ?_, ⟨e15, fun i hi => r3.2 i (by omega)⟩, PJ.zero (bnd_on hbd hop2 hbd2), hop2, fun i hi => ?_, ?_, by omega, hw2, hbd2, LFR.trans (B' := B2) (g' := g2) ⟨fun j a _ => r4 j a, fun j a1 a2 a3 a4 a5 a6 => ?_⟩ (hlf2.trans w7), hcf2⟩⟩
          · rw [upd_s, upd_s, upd_n (by decide), upd_n (by decide), r5 9 (by decide)]
          · rw [upd_n (by decide), upd_n (by decide), upd_n (by decide), upd_n (by decide)]; exact r5 10 (by decide)
          · rw [upd_n (by decide), upd_n (by decide), upd_n (by decide)]
          · rw [(hst2 i (by omega)).1, (hst2 i (by omega)).2, pt_n (by omega), pt_n (by omega)]; exact ⟨rfl, rfl⟩
          · rw [upd_n (by decide), upd_s, upd_n (by decide), r5 13 (by decide), h132]; exact subI (a := p + 1) (b := 1) (by omega)
          · rw [upd_n a1, upd_n a4, upd_n a6]; exact r5 j a6
        · left
          obtain ⟨g', w1, w2, w3⟩ := wrong_f (AT := AT) (B := B2) hC2
          rw [if_neg h41, if_neg h41, if_neg z5, if_neg (z6 rfl), w1]
          simp only [letv, Option.bind_some]
          exact ⟨A2, f2, _, B2, g', rfl, rfl, w2, w3.trans (hlf2.trans w7)⟩
  rw [if_neg h40, if_neg h40]
  have ih3 : DEAD AT d 3 p := deadS (6 - p) p d (by omega) (by omega)
  unfold f10_readsCompared
  rcases readsSum_c (s := s) hn hp hd hX hC hLo hM hS h13 hm hs (Or.inr h6) with ⟨A2, f2, fT2, B2, g2, z1, z2, z3, z4⟩ | ⟨A2, f2, fT2, B2, g2, pos2, m2, op2, vl2, z1, z2, hC2, hp2, hLo2, hM2, hS2, hop2, h132, hmp2, ⟨z, hw2⟩, hbd2, hlf2, hcf2⟩
  · left
    obtain ⟨A3, f3, fT3, y1, y2⟩ := trest_k ih3 A2 f2 fT2 z3.1
    rw [z1, Option.bind_some, y1, z2, Option.bind_some, if_pos rfl, Option.bind_some, if_pos rfl]
    exact ⟨A3, f3, fT3, B2, g2, rfl, rfl, y2.flt z3, z4⟩
  have hpn2 := hC2.2.2.2.2.2
  have hX2 : TXT n b AT B2 := hX.congr (hlf2.1 7 (by decide) (by decide))
  have lt2 := WF_lt _ _ _ _ hw2
  rw [z1, Option.bind_some, z2, Option.bind_some, if_neg n10, tlook_c hX2 hC2, here_c hX2 hC2, Option.bind_some, Option.bind_some]
  have go : ∀ o, 7 ≤ o → o ≤ 9 → chr n b pos2 = nI (COP o) → CFLT B g (f2_test_b102 (f2_anyOf_rec d) AT (nI p) A2 f2 fT2 (chr n b pos2)) ((f10_readsCompared_b52 B2 g2 (nI o)).bind fun q_9 => if q_9.1 = 0 then some (0, q_9.2.1, q_9.2.2) else f10_readsCondition_l92 (f10_readsCondition_l40 k) NF q_9.2.1 q_9.2.2) ∨ ∃ A' f' fT' B' g' pos' m' K j k' op' vl' c' lo', f2_test_b102 (f2_anyOf_rec d) AT (nI p) A2 f2 fT2 (chr n b pos2) = some (A', f', fT') ∧ ((f10_readsCompared_b52 B2 g2 (nI o)).bind fun q_9 => if q_9.1 = 0 then some (0, q_9.2.1, q_9.2.2) else f10_readsCondition_l92 (f10_readsCondition_l40 k) NF q_9.2.1 q_9.2.2) = AE K j k' B' g' ∧ 1000 + p ≤ K ∧ CMID n 0 m s p pos op vl c lo A B f g A' B' f' fT' g' pos' m' 0 j k' op' vl' vl' c' lo' := by
    intro o o7 o9 ho
    have hlt2 : pos2 < n := chr_lt (c := COP o) ho (by rcases (show o = 7 ∨ o = 8 ∨ o = 9 by omega) with rfl | rfl | rfl <;> decide)
    have hC3 : CUR n (pos2 + 1) (f7_step fT2 AT) (upd g2 9 (g2 9 + 1)) := hC2.step hlt2
    unfold f2_test_b102 f10_readsCompared_b52
    rw [if_neg (show ¬ nI o = -1 by rw [show (-1 : Int32) = -nI 1 from rfl, eq_neg (by omega) (by omega) (by omega)]; exact not_false), ho]
    simp only [letv]
    rcases readsSum_c (s := s) (g := upd g2 9 (g2 9 + 1)) (fT := f7_step fT2 AT) (pos := pos2 + 1) (B := B2) (A := A2) (f := f2) hn hp hd hX2 hC3 hLo2 (hM2.congr (fun _ _ => ⟨rfl, rfl⟩) rfl (upd_n (by decide))) (hS2.congr (fun _ _ => ⟨rfl, rfl⟩) rfl (upd_n (by decide))) ((upd_n (by decide)).trans h132) (by omega) (by omega) (Or.inr h6) with ⟨A4, f4, fT4, B4, g4, y1, y2, y3, y4⟩ | ⟨A4, f4, fT4, B4, g4, pos4, m4, op4, vl4, y1, y2, hC4, hp4, hLo4, hM4, hS4, hop4, h134, hmp4, ⟨z', hw4⟩, hbd4, hlf4, hcf4⟩
    · left
      obtain ⟨A5, f5, e5, -⟩ := order_k f4 A4 (nI (COP o)) 0
      rw [y1, Option.bind_some, e5, Option.bind_some, y2, Option.bind_some, if_pos rfl, Option.bind_some, if_pos rfl]
      exact ⟨_, _, fT4, B4, g4, rfl, rfl, y3, (y4.trans ⟨fun _ _ _ => rfl, fun j a _ _ _ _ _ => upd_n a⟩).trans hlf2⟩
    · right
      have hpn4 := hC4.2.2.2.2.2
      have lt4 := WF_lt _ _ _ _ hw4
      have old : ∀ j, j < m4 → pt op4 m4 o j = op4 j ∧ pt vl4 m4 0 j = vl4 j := fun j hj => ⟨pt_n (by omega), pt_n (by omega)⟩
      obtain ⟨A5, f5, e1, e2, e3⟩ := order_c (o := o) (v := 0) (hLo4.congr old) (by omega) pt_s pt_s
      have e1' : f2_order f4 A4 (nI (COP o)) 0 = some (nI m4, A5, f5) := e1
      obtain ⟨r1, r2⟩ := notes_c (o := o) (v := 0) (hM4.congr old rfl rfl : MOR m4 (pt op4 m4 o) (pt vl4 m4 0) B4 g4) (by omega) pt_s pt_s
      have r1' : f10_notes g4 B4 (nI o) 0 = some (updA B4 18 (upd (B4 18) m4 (nI (1048576 * o + 0))), upd g4 14 (nI (m4 + 1))) := r1
      have hbd5 : ∀ j, m ≤ j → j < m4 + 1 → pt op4 m4 o j ≤ 12 ∧ pt vl4 m4 0 j < 1048576 := fun j a c => by
        by_cases e : j = m4
        · subst e; rw [pt_s, pt_s]; exact ⟨by omega, by decide⟩
        · rw [(old j (by omega)).1, (old j (by omega)).2]
          by_cases e2 : j < m2
          · rw [(hop4 j e2).1, (hop4 j e2).2]; exact hbd2 j a e2
          · exact hbd4 j (by omega) (by omega)
      have hop5 : ∀ j, j < m → pt op4 m4 o j = op j ∧ pt vl4 m4 0 j = vl j := fun j hj => by rw [(old j (by omega)).1, (old j (by omega)).2, (hop4 j (by omega)).1, (hop4 j (by omega)).2]; exact hop2 j hj
      rw [y1, Option.bind_some, e1', Option.bind_some, y2, Option.bind_some, if_neg n10, r1', Option.bind_some]
      refine ⟨A5, f5, fT4, updA B4 18 (upd (B4 18) m4 (nI (1048576 * o + 0))), upd g4 14 (nI (m4 + 1)), pos4, m4 + 1, NF, NF, k, pt op4 m4 o, pt vl4 m4 0, c, lo, rfl, ?_, by omega, ⟨hC4.congr (upd_n (by decide)) (upd_n (by decide)), by omega, by omega, by omega, e2, r2, hS4.congr (fun _ _ => ⟨rfl, rfl⟩) (updA_n (by decide)) (upd_n (by decide)), PJ.zero (bnd_on hbd hop5 hbd5), hop5, fun _ _ => ⟨rfl, rfl⟩, (upd_n (by decide)).trans h134, by omega, ⟨z + z' + 1, Or.inl ⟨m2, WF_congr _ _ _ _ (WF_le hw2 (by omega)) fun j a c => ?_, ?_, ?_, ?_, by omega⟩⟩, hbd5, LFR.trans (B' := B4) (g' := g4) ⟨fun j a _ => updA_n a, fun j a1 a2 a3 a4 a5 a6 => upd_n a5⟩ ((hlf4.trans ⟨fun _ _ _ => rfl, fun j a _ _ _ _ _ => upd_n a⟩).trans hlf2), (e3.trans hcf4).trans hcf2⟩⟩
      · unfold AE LD f10_endsPiece
        cases f10_endsPiece_l0 NF (updA B4 18 (upd (B4 18) m4 (nI (1048576 * o + 0)))) (upd g4 14 (nI (m4 + 1))) with
        | none => rfl
        | some x => rfl
      · rw [(old j (by omega)).1, (old j (by omega)).2]; exact hop4 j c
      · rw [Nat.add_sub_cancel]
        exact WF_congr _ _ _ _ (WF_le hw4 (by omega)) fun j a c => old j c
      · rw [Nat.add_sub_cancel, pt_s]; exact o7
      · rw [Nat.add_sub_cancel, pt_s]; exact o9
  by_cases c60 : chr n b pos2 = 60
  · rw [if_pos c60, if_pos c60]; exact go 7 (by decide) (by decide) c60
  rw [if_neg c60, if_neg c60, Option.bind_some]
  by_cases c62 : chr n b pos2 = 62
  · rw [if_pos c62, if_pos c62]; exact go 8 (by decide) (by decide) c62
  rw [if_neg c62, if_neg c62]
  by_cases c61 : chr n b pos2 = 61
  · rw [if_pos c61, if_pos c61]; exact go 9 (by decide) (by decide) c61
  rw [if_neg c61, if_neg c61]
  left
  unfold f10_readsCompared_b52
  obtain ⟨g', w1, w2, w3⟩ := wrong_f (AT := AT) (B := B2) hC2
  rw [if_pos rfl, w1, Option.bind_some, if_pos rfl]
  exact ⟨A2, f2, _, B2, g', rfl, rfl, w2, w3.trans hlf2⟩
