def CRES (n : Nat) (b : Nat → Nat) (L m s p pos : Nat) (op vl c lo : Nat → Nat) (A B : Nat → Nat → Int32) (f g : Nat → Int32) (P : Option ((Nat → Nat → Int32) × (Nat → Int32) × (Nat → Int32))) (Q : Option (Int32 × (Nat → Nat → Int32) × (Nat → Int32))) : Prop :=
  CFLT B g P Q ∨ ∃ A' f' fT' B' g' pos' m' q j k' op' vl' vr' c' lo', P = some (A', f', fT') ∧ Q = LD j k' B' g' ∧ CMID n L m s p pos op vl c lo A B f g A' B' f' fT' g' pos' m' q j k' op' vl' vr' c' lo' ∧ chr n b pos' ≠ 38 ∧ (L = 1 → chr n b pos' ≠ 124)
theorem jump_c {n L m0 s0 p pos0 pos m q j k o : Nat} {b op0 vl0 c0 lo0 op vl vr c lo : Nat → Nat} {A0 B0 A B AT : Nat → Nat → Int32} {f0 g0 f fT g : Nat → Int32} (hn : n ≤ 240) (hX : TXT n b AT B) (h : CMID n L m0 s0 p pos0 op0 vl0 c0 lo0 A0 B0 f0 g0 A B f fT g pos m q (j + 1) k op vl vr c lo) (hm0 : m0 ≤ pos0) (hs0 : s0 ≤ pos0) (h0 : 0 < s0) (ht : c0 (s0 - 1) = 13 ∨ L = 0 ∧ c0 (s0 - 1) = 12) (ho : (L = 0 ∧ o = 11 ∧ chr n b pos = 38) ∨ (L = 1 ∧ o = 12 ∧ chr n b pos = 124)) :
    ∃ B' g', LD (j + 1) k B g = BT k B' g' ∧ pos < n ∧ TXT n b AT B' ∧ CUR n (pos + 1) (f7_step fT AT) g' ∧ MOR (m + 1) (pt op m o) (pt vl m 0) B' g' ∧ STK (s0 + 1) (pt c s0 o) (pt lo s0 m) B' g' ∧ g' 13 = nI p ∧ LFR B' B g' g := by
  obtain ⟨hC, hp0, hj, hk, hLo, hM, hS, hP, hop, hst, h13, hmp, hw, hbd, hlf, hcf⟩ := h
  have hpn := hC.2.2.2.2.2
  have hNF := NF_ge
  have hP1 := hP.1
  have hlt : pos < n := by
    rcases ho with ⟨-, -, h⟩ | ⟨-, -, h⟩
    · exact chr_lt (c := 38) h (by decide)
    · exact chr_lt (c := 124) h (by decide)
  have hct : c (s0 - 1) = c0 (s0 - 1) := (hst (s0 - 1) (by omega)).1
  obtain ⟨B1, g1, r1, r2, r3, r4, r5⟩ := land_c (L := L) (s := s0) (m := m) (c := c) (lo := lo) (by omega) (by omega) (by omega) (Or.inr (by rw [hct]; omega)) q NF vr B g (by omega) hM hS hP
  have hX1 : TXT n b AT B1 := hX.congr (r4 7 (by decide))
  have hC1 : CUR n pos fT g1 := hC.congr (r5 9 (by decide)) (r5 10 (by decide))
  have old : ∀ j, j < m → pt op m o j = op j ∧ pt vl m 0 j = vl j := fun j hj => ⟨pt_n (by omega), pt_n (by omega)⟩
  obtain ⟨y1, y2⟩ := notes_c (o := o) (v := 0) (B := updA B1 19 (upd (B1 19) s0 (nI (1048576 * o + m)))) (g := upd g1 15 (nI (s0 + 1))) (r2.congr old (updA_n (by decide)) (upd_n (by decide))) (by omega) pt_s pt_s
  have y1' : f10_notes (upd g1 15 (nI (s0 + 1))) (updA B1 19 (upd (B1 19) s0 (nI (1048576 * o + m)))) (nI o) 0 = _ := y1
  have ej : f10_jumps g1 B1 (nI o) = some (updA (updA B1 19 (upd (B1 19) s0 (nI (1048576 * o + m)))) 18 (upd (updA B1 19 (upd (B1 19) s0 (nI (1048576 * o + m))) 18) m (nI (1048576 * o + 0))), upd (upd (upd g1 15 (nI (s0 + 1))) 14 (nI (m + 1))) 9 (nI (pos + 1))) := by
    unfold f10_jumps
    rw [r3.1, if_neg (nI_in (show s0 < 260 by omega) (by decide)), ux_nI (by omega), r2.1, show (1048576 : Int32) = nI 1048576 from rfl, mulI, addI, nI_s]
    simp only [letv]
    rw [y1', Option.bind_some]
    simp only []
    rw [upd_n (show (9 : Nat) ≠ 14 by decide), upd_n (show (9 : Nat) ≠ 15 by decide), hC1.2.2.2.2.1, nI_s]
  refine ⟨updA (updA B1 19 (upd (B1 19) s0 (nI (1048576 * o + m)))) 18 (upd (updA B1 19 (upd (B1 19) s0 (nI (1048576 * o + m))) 18) m (nI (1048576 * o + 0))), upd (upd (upd g1 15 (nI (s0 + 1))) 14 (nI (m + 1))) 9 (nI (pos + 1)), ?_, hlt, hX1.congr (by rw [updA_n (by decide), updA_n (by decide)]), (hC1.step hlt).congr ?_ ?_, y2.congr (fun _ _ => ⟨rfl, rfl⟩) rfl (upd_n (by decide)), ⟨?_, fun i hi => ?_⟩, ?_, LFR.trans (B' := B1) (g' := g1) ⟨fun j a c => by rw [updA_n a, updA_n c], fun j a1 a2 a3 a4 a5 a6 => by rw [upd_n a1, upd_n a5, upd_n a6]⟩ ⟨fun j a _ => r4 j a, fun j a1 a2 a3 a4 a5 a6 => r5 j a6⟩⟩
  · have eL : LD (j + 1) k B g = f10_readsCondition_b92 (f10_readsCondition_l40 k) (f10_readsCondition_l92 (f10_readsCondition_l40 k) j) B g := rfl
    rw [eL]
    unfold f10_readsCondition_b92 f10_readsCondition_b180 f10_readsCondition_b195
    rw [here_c hX hC]
    simp only [Option.bind_some]
    rcases ho with ⟨rfl, rfl, h⟩ | ⟨rfl, rfl, h⟩
    · have r1' : f10_lands g B 0 = some (B1, g1) := r1
      have ej' : f10_jumps g1 B1 11 = _ := ej
      rw [if_neg (show ¬ chr n b pos = 41 by rw [h]; decide), if_pos h, if_neg (show ¬ chr n b pos = 124 by rw [h]; decide), r1']
      simp only [Option.bind_some]
      rw [here_c hX1 hC1]
      simp only [Option.bind_some]
      rw [if_pos h, ej']
      rfl
    · have r1' : f10_lands g B 1 = some (B1, g1) := r1
      have ej' : f10_jumps g1 B1 12 = _ := ej
      rw [if_neg (show ¬ chr n b pos = 41 by rw [h]; decide), if_neg (show ¬ chr n b pos = 38 by rw [h]; decide), if_pos h, if_pos h, r1']
      simp only [Option.bind_some]
      rw [here_c hX1 hC1]
      simp only [Option.bind_some]
      rw [if_neg (show ¬ chr n b pos = 38 by rw [h]; decide), ej']
      rfl
  · rw [upd_s, upd_s, hC1.2.2.2.2.1, nI_s]
  · rw [upd_n (by decide), upd_n (by decide), upd_n (by decide), upd_n (by decide)]
  · rw [upd_n (by decide), upd_n (by decide), upd_s]
  · rw [updA_n (by decide), updA_s]
    by_cases e : i = s0
    · subst e; rw [upd_s, pt_s, pt_s]; exact ⟨rfl, by omega, by omega⟩
    · rw [upd_n e, pt_n e, pt_n e]; exact r3.2 i (by omega)
  · rw [upd_n (by decide), upd_n (by decide), upd_n (by decide), r5 13 (by decide)]; exact h13
theorem joinj_c {n L m0 s0 p pos0 pos m q j k o pos2 m2 q2 j2 k2 : Nat} {op0 vl0 c0 lo0 op vl vr c lo op2 vl2 vr2 c2 lo2 : Nat → Nat} {A0 B0 A B A1 B1 A2 B2 : Nat → Nat → Int32} {f0 g0 f fT g f1 g1 f2 fT2 g2 : Nat → Int32} (hn : n ≤ 240) (h : CMID n L m0 s0 p pos0 op0 vl0 c0 lo0 A0 B0 f0 g0 A B f fT g pos m q j k op vl vr c lo) (hm0 : m0 ≤ pos0) (hl1 : LFR B1 B g1 g) (hc1 : CFR A1 A f1 f)
    (h' : CMID n 0 (m + 1) (s0 + 1) p (pos + 1) (pt op m o) (pt vl m 0) (pt c s0 o) (pt lo s0 m) A1 B1 f1 g1 A2 B2 f2 fT2 g2 pos2 m2 q2 j2 k2 op2 vl2 vr2 c2 lo2) (ho : o = 11 ∨ L = 1 ∧ o = 12) (hq : q2 + 1 ≤ 1 + L) :
    CMID n L m0 s0 p pos0 op0 vl0 c0 lo0 A0 B0 f0 g0 (updA A2 1 (upd (A2 1) m (nI m2))) B2 f2 fT2 g2 pos2 m2 (q2 + 1) j2 k2 op2 (pt vl2 m m2) vr2 c2 lo2 := by
  obtain ⟨hC, hp0, hj, hk, hLo, hM, hS, hP, hop, hst, h13, hmp, ⟨z, hw⟩, hbd, hlf, hcf⟩ := h
  obtain ⟨hC', hp0', hj', hk', hLo', hM', hS', ⟨P1, P2, P3, P4⟩, hop', hst', h13', hmp', ⟨z', hw'⟩, hbd', hlf', hcf'⟩ := h'
  have hpn := hC'.2.2.2.2.2
  have l1 := WF_lt _ _ _ _ hw
  have l2 := WF_lt _ _ _ _ hw'
  obtain ⟨om, vm⟩ := hop' m (by omega)
  rw [pt_s] at om vm
  obtain ⟨cs, ls⟩ := hst' s0 (by omega)
  rw [pt_s] at cs ls
  have low : ∀ j, j < m → op2 j = op j ∧ pt vl2 m m2 j = vl j := fun j hj => by
    obtain ⟨a1, a2⟩ := hop' j (by omega)
    rw [a1, pt_n (show j ≠ m by omega), pt_n (show j ≠ m by omega), a2, pt_n (show j ≠ m by omega)]
    exact ⟨rfl, rfl⟩
  refine ⟨hC', by omega, hj', hk', ⟨hLo'.1, fun j hj => ?_⟩, hM', ?_, ⟨hq, fun j hj hno => ?_, P3, fun i hi => ?_⟩, fun j hj => ?_, fun i hi => ?_, h13', by omega, ⟨z + z' + 1, Or.inr (Or.inr ⟨m, WF_congr _ _ _ _ (WF_le hw (by omega)) fun j a c => low j c, by omega, pt_s, WF_congr _ _ _ _ (WF_le hw' (by omega)) fun j a c => ⟨rfl, pt_n (by omega)⟩⟩)⟩, fun j a c => ?_, (hlf'.trans hl1).trans hlf, CFR.trans (A' := A2) (f' := f2) ⟨fun j a c => updA_n c, fun _ _ => rfl⟩ ((hcf'.trans hc1).trans hcf)⟩
  · rw [updA_n (show (0 : Nat) ≠ 1 by decide), updA_s]
    by_cases e : j = m
    · subst e; rw [upd_s, pt_s]; exact ⟨(hLo'.2 j hj).1, rfl⟩
    · rw [upd_n e, pt_n e]; exact hLo'.2 j hj
  · rw [show s0 + (q2 + 1) = s0 + 1 + q2 by omega]; exact hS'
  · have e : j ≠ m := fun e => hno 0 (by omega) (by rw [Nat.add_zero, ls, e])
    rw [pt_n e]
    refine P2 j hj fun i hi => ?_
    have := hno (i + 1) (by omega)
    rw [show s0 + (i + 1) = s0 + 1 + i by omega] at this
    exact this
  · by_cases e : i = 0
    · subst e
      rw [Nat.add_zero, cs, ls, pt_s]
      exact ⟨ho, by omega, rfl⟩
    · obtain ⟨a1, a2, a3⟩ := P4 (i - 1) (by omega)
      rw [show s0 + 1 + (i - 1) = s0 + i by omega] at a1 a2 a3
      refine ⟨by omega, a2, ?_⟩
      by_cases e2 : lo2 (s0 + i) = m
      · rw [e2, pt_s]
      · rw [pt_n e2]; exact a3
  · rw [(low j (by omega)).1, (low j (by omega)).2]; exact hop j hj
  · obtain ⟨a1, a2⟩ := hst' i (by omega)
    rw [a1, a2, pt_n (by omega), pt_n (by omega)]; exact hst i hi
  · by_cases e : j = m
    · subst e; rw [pt_s, om]; exact ⟨by omega, by omega⟩
    · by_cases e2 : j < m
      · rw [(low j e2).1, (low j e2).2]; exact hbd j a e2
      · rw [pt_n e]; exact hbd' j (by omega) c
