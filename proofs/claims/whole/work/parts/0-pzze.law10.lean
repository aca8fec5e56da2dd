theorem CMID.txt {n L m0 s0 p pos0 : Nat} {b op0 vl0 c0 lo0 : Nat → Nat} {A0 B0 AT : Nat → Nat → Int32} {f0 g0 : Nat → Int32} {A B : Nat → Nat → Int32} {f fT g : Nat → Int32} {pos m q j k : Nat} {op vl vr c lo : Nat → Nat} (h : CMID n L m0 s0 p pos0 op0 vl0 c0 lo0 A0 B0 f0 g0 A B f fT g pos m q j k op vl vr c lo) (hX : TXT n b AT B0) : TXT n b AT B := by
  obtain ⟨a1, a2, a3, a4, a5, a6, a7, a8, a9, a10, a11, a12, a13, a14, a15, a16⟩ := h
  exact hX.congr (a15.1 7 (by decide) (by decide))
theorem CMID.up {n m0 s0 p pos0 : Nat} {op0 vl0 c0 lo0 : Nat → Nat} {A0 B0 : Nat → Nat → Int32} {f0 g0 : Nat → Int32} {A B : Nat → Nat → Int32} {f fT g : Nat → Int32} {pos m q j k : Nat} {op vl vr c lo : Nat → Nat} (h : CMID n 0 m0 s0 p pos0 op0 vl0 c0 lo0 A0 B0 f0 g0 A B f fT g pos m q j k op vl vr c lo) : CMID n 1 m0 s0 p pos0 op0 vl0 c0 lo0 A0 B0 f0 g0 A B f fT g pos m q j k op vl vr c lo := by
  obtain ⟨a1, a2, a3, a4, a5, a6, a7, ⟨p1, p2, p3, p4⟩, a9⟩ := h
  refine ⟨a1, a2, a3, a4, a5, a6, a7, ⟨by omega, p2, p3, fun i hi => ?_⟩, a9⟩
  obtain ⟨q1, q2⟩ := p4 i hi
  exact ⟨by omega, q2⟩
theorem aloop_c {n d p L m0 s0 pos0 : Nat} {b op0 vl0 c0 lo0 : Nat → Nat} {A0 B0 AT : Nat → Nat → Int32} {f0 g0 : Nat → Int32} (hn : n ≤ 240) (ih : CTEST n b AT d p) (hb0 : ∀ j, j < m0 → op0 j ≤ 12 ∧ vl0 j < 1048576) (hm0 : m0 ≤ pos0) (hs0 : s0 ≤ pos0) (h0 : 0 < s0) (ht : c0 (s0 - 1) = 13 ∨ c0 (s0 - 1) = 12) (hX0 : TXT n b AT B0) (hL : L = 0) : ∀ (K u : Nat) (A B : Nat → Nat → Int32) (f fT g : Nat → Int32) (pos m q j k : Nat) (op vl vr c lo : Nat → Nat), 242 ≤ K + u → u < pos → CMID n L m0 s0 p pos0 op0 vl0 c0 lo0 A0 B0 f0 g0 A B f fT g pos m q j k op vl vr c lo → CRES n b L m0 s0 p pos0 op0 vl0 c0 lo0 A0 B0 f0 g0 (f2_allOf_l8 (f2_anyOf_rec d) AT (nI p) K A f fT (nI u)) (LD j k B g) := by
  subst hL
  intro K
  induction K with
  | zero =>
    intro u A B f fT g pos m q j k op vl vr c lo h1 h2 h
    have := h.1.2.2.2.2.2
    omega
  | succ K IH =>
    intro u A B f fT g pos m q j k op vl vr c lo hK hu h
    have hX := h.txt hX0
    have hmid := h
    obtain ⟨hC, hp0, hj, hk, hLo, hM, hS, hP, hop, hst, h13, hmp, hw, hbd, hlf, hcf⟩ := h
    have hpn := hC.2.2.2.2.2
    obtain ⟨j, rfl⟩ : ∃ i, j = i + 1 := ⟨j - 1, by omega⟩
    have ea : f2_allOf_l8 (f2_anyOf_rec d) AT (nI p) (K + 1) A f fT (nI u) = f2_allOf_b8 (f2_anyOf_rec d) AT (nI p) (f2_allOf_l8 (f2_anyOf_rec d) AT (nI p) K) A f fT (nI u) := rfl
    rw [ea]
    unfold f2_allOf_b8
    rw [if_neg (show ¬ 240 ≤ nI u by rw [show (240 : Int32) = nI 240 from rfl, leI (by omega) (by omega)]; omega), fine_c hC.2.2.1, if_neg n10, tlook_c hX hC]
    by_cases h38 : chr n b pos = 38
    · obtain ⟨B1, g1, r1, r2, r3, r4, r5, r6, r7, r8⟩ := jump_c hn hX hmid hm0 hs0 h0 (by omega) (Or.inl ⟨rfl, rfl, h38⟩)
      have old : ∀ j, j < m → pt op m 11 j = op j ∧ pt vl m 0 j = vl j := fun j hj => ⟨pt_n (by omega), pt_n (by omega)⟩
      obtain ⟨A1, f1, e1, e2, e3⟩ := order_c (o := 11) (v := 0) (hLo.congr old) (by omega) pt_s pt_s
      have e1' : f2_order f A 4 0 = some (nI m, A1, f1) := e1
      have hb1 : ∀ j, j < m + 1 → pt op m 11 j ≤ 12 ∧ pt vl m 0 j < 1048576 := fun j hj => by
        by_cases e : j = m
        · subst e; rw [pt_s, pt_s]; exact ⟨by decide, by decide⟩
        · rw [(old j (by omega)).1, (old j (by omega)).2]; exact bnd_on hb0 hop hbd j (by omega)
      rw [if_pos h38, r1]
      simp only [letv]
      rw [e1', Option.bind_some]
      simp only []
      rcases ih (m + 1) (s0 + 1) (pos + 1) k _ _ _ _ A1 B1 f1 (f7_step fT AT) g1 ⟨r3, r4, e2, r5, r6, r7, by omega, by omega, hb1, by omega, by rw [Nat.add_sub_cancel, pt_s]; decide, by omega⟩ with ⟨A2, f2, fT2, B2, g2, z1, z2, z3, z4⟩ | ⟨A2, f2, fT2, B2, g2, pos2, m2, K2, j2, k2, op2, vl2, c2, lo2, z1, z2, z3, z4⟩
      · left
        obtain ⟨K', rfl⟩ : ∃ j, K = j + 1 := ⟨K - 1, by omega⟩
        rw [z1, Option.bind_some, all_dead z3.1]
        exact ⟨_, _, fT2, B2, g2, rfl, z2, z3, (z4.trans r8).trans hlf⟩
      · have hj3 := joinj_c hn hmid hm0 r8 e3 z4 (Or.inl rfl) (by omega)
        obtain ⟨hC2, hp2, hj2, hk2, hLo2, hM2, hS2, hP2, hop2, hst2, h132, hmp2, hw2, hbd2, hlf2, hcf2⟩ := z4
        have c11 : c2 s0 = 11 := by rw [(hst2 s0 (by omega)).1, pt_s]
        have eAE : AE K2 j2 k2 B2 g2 = LD j2 k2 B2 g2 := by
          unfold AE
          rw [ends_0 (s := s0 + 1) hS2 (by omega) (by omega) (by rw [Nat.add_sub_cancel, c11]; decide) (by omega), Option.bind_some]
        rw [z1, Option.bind_some, z2, eAE, nI_s, show (A2, f2, fT2).2.1 7 = nI m2 from hLo2.1, put_nI (by omega) (by decide)]
        exact IH (u + 1) _ B2 f2 fT2 g2 pos2 m2 (0 + 1) j2 k2 _ _ _ c2 lo2 (by omega) (by omega) hj3
    · rw [if_neg h38]
      exact Or.inr ⟨A, f, fT, B, g, pos, m, q, j + 1, k, op, vl, vr, c, lo, rfl, rfl, hmid, h38, fun h => absurd h (by decide)⟩
theorem all_c {n d p : Nat} {b : Nat → Nat} {AT : Nat → Nat → Int32} (hn : n ≤ 240) (ih : CTEST n b AT d p) : CANY n b AT 1 0 (d + 1) p := by
  intro m s pos k op vl c lo A B f fT g hP ht
  have hP0 := hP
  obtain ⟨hX, hC, hLo, hM, hS, h13, hm, hs, hbd, hs0, h6, hk⟩ := hP
  show CRES n b 0 m s p pos op vl c lo A B f g (f2_allOf (f2_anyOf_rec d) f A fT AT (nI p)) (BT k B g)
  have hpn := hC.2.2.2.2.2
  have hNF := NF_ge
  unfold f2_allOf
  rcases ih m s pos k op vl c lo A B f fT g hP0 with ⟨A2, f2, fT2, B2, g2, z1, z2, z3, z4⟩ | ⟨A2, f2, fT2, B2, g2, pos2, m2, K2, j2, k2, op2, vl2, c2, lo2, z1, z2, z3, z4⟩
  · left
    obtain ⟨N, hN⟩ := NF_1
    rw [z1, Option.bind_some, hN, all_dead z3.1]
    exact ⟨_, _, fT2, B2, g2, rfl, z2, z3, z4⟩
  · have hmid := z4
    obtain ⟨hC2, hp2, hj2, hk2, hLo2, hM2, hS2, hP2, hop2, hst2, h132, hmp2, hw2, hbd2, hlf2, hcf2⟩ := z4
    have hct : c2 (s - 1) = c (s - 1) := (hst2 (s - 1) (by omega)).1
    have eAE : AE K2 j2 k2 B2 g2 = LD j2 k2 B2 g2 := by
      unfold AE
      rw [ends_0 (s := s) hS2 (by omega) (by omega) (by rw [hct]; omega) (by omega), Option.bind_some]
    rw [z1, Option.bind_some, z2, eAE]
    exact aloop_c hn ih hbd hm hs hs0 (by omega) hX rfl NF 0 A2 B2 f2 fT2 g2 pos2 m2 0 j2 k2 op2 vl2 vl2 c2 lo2 (by omega) (by omega) hmid
theorem bloop_c {n d p L m0 s0 pos0 : Nat} {b op0 vl0 c0 lo0 : Nat → Nat} {A0 B0 AT : Nat → Nat → Int32} {f0 g0 : Nat → Int32} (hn : n ≤ 240) (ih : CANY n b AT 1 0 d p) (hb0 : ∀ j, j < m0 → op0 j ≤ 12 ∧ vl0 j < 1048576) (hm0 : m0 ≤ pos0) (hs0 : s0 ≤ pos0) (h0 : 0 < s0) (ht : c0 (s0 - 1) = 13) (hX0 : TXT n b AT B0) (hL : L = 1) : ∀ (K u : Nat) (A B : Nat → Nat → Int32) (f fT g : Nat → Int32) (pos m q j k : Nat) (op vl vr c lo : Nat → Nat), 242 ≤ K + u → u < pos → chr n b pos ≠ 38 → CMID n L m0 s0 p pos0 op0 vl0 c0 lo0 A0 B0 f0 g0 A B f fT g pos m q j k op vl vr c lo → CRES n b L m0 s0 p pos0 op0 vl0 c0 lo0 A0 B0 f0 g0 (f2_anyOf_l8 (f2_anyOf_rec d) AT (nI p) K A f fT (nI u)) (LD j k B g) := by
  subst hL
  intro K
  induction K with
  | zero =>
    intro u A B f fT g pos m q j k op vl vr c lo h1 h2 _ h
    have := h.1.2.2.2.2.2
    omega
  | succ K IH =>
    intro u A B f fT g pos m q j k op vl vr c lo hK hu hno h
    have hX := h.txt hX0
    have hmid := h
    obtain ⟨hC, hp0, hj, hk, hLo, hM, hS, hP, hop, hst, h13, hmp, hw, hbd, hlf, hcf⟩ := h
    have hpn := hC.2.2.2.2.2
    obtain ⟨j, rfl⟩ : ∃ i, j = i + 1 := ⟨j - 1, by omega⟩
    have ea : f2_anyOf_l8 (f2_anyOf_rec d) AT (nI p) (K + 1) A f fT (nI u) = f2_anyOf_b8 (f2_anyOf_rec d) AT (nI p) (f2_anyOf_l8 (f2_anyOf_rec d) AT (nI p) K) A f fT (nI u) := rfl
    rw [ea]
    unfold f2_anyOf_b8
    rw [if_neg (show ¬ 240 ≤ nI u by rw [show (240 : Int32) = nI 240 from rfl, leI (by omega) (by omega)]; omega), fine_c hC.2.2.1, if_neg n10, tlook_c hX hC]
    by_cases h38 : chr n b pos = 124
    · obtain ⟨B1, g1, r1, r2, r3, r4, r5, r6, r7, r8⟩ := jump_c hn hX hmid hm0 hs0 h0 (Or.inl ht) (Or.inr ⟨rfl, rfl, h38⟩)
      have old : ∀ j, j < m → pt op m 12 j = op j ∧ pt vl m 0 j = vl j := fun j hj => ⟨pt_n (by omega), pt_n (by omega)⟩
      obtain ⟨A1, f1, e1, e2, e3⟩ := order_c (o := 12) (v := 0) (hLo.congr old) (by omega) pt_s pt_s
      have e1' : f2_order f A 5 0 = some (nI m, A1, f1) := e1
      have hb1 : ∀ j, j < m + 1 → pt op m 12 j ≤ 12 ∧ pt vl m 0 j < 1048576 := fun j hj => by
        by_cases e : j = m
        · subst e; rw [pt_s, pt_s]; exact ⟨by decide, by decide⟩
        · rw [(old j (by omega)).1, (old j (by omega)).2]; exact bnd_on hb0 hop hbd j (by omega)
      rw [if_pos h38, r1]
      simp only [letv]
      rw [e1', Option.bind_some]
      simp only []
      rcases ih (m + 1) (s0 + 1) (pos + 1) k _ _ _ _ A1 B1 f1 (f7_step fT AT) g1 ⟨r3, r4, e2, r5, r6, r7, by omega, by omega, hb1, by omega, by rw [Nat.add_sub_cancel, pt_s]; decide, by omega⟩ (Or.inr ⟨rfl, by rw [Nat.add_sub_cancel, pt_s]⟩) with ⟨A2, f2, fT2, B2, g2, z1, z2, z3, z4⟩ | ⟨A2, f2, fT2, B2, g2, pos2, m2, q2, j2, k2, op2, vl2, vr2, c2, lo2, z1, z2, z4, z5, -⟩
      · left
        obtain ⟨K', rfl⟩ : ∃ j, K = j + 1 := ⟨K - 1, by omega⟩
        rw [z1, Option.bind_some, any_dead z3.1]
        exact ⟨_, _, fT2, B2, g2, rfl, z2, z3, (z4.trans r8).trans hlf⟩
      · have hq2 : q2 ≤ 1 + 0 := z4.2.2.2.2.2.2.2.1.1
        have hj3 := joinj_c hn hmid hm0 r8 e3 z4 (Or.inr ⟨rfl, rfl⟩) (by omega)
        obtain ⟨hC2, hp2, hj2, hk2, hLo2, hM2, hS2, hP2, hop2, hst2, h132, hmp2, hw2, hbd2, hlf2, hcf2⟩ := z4
        rw [z1, Option.bind_some, z2, nI_s, show (A2, f2, fT2).2.1 7 = nI m2 from hLo2.1, put_nI (by omega) (by decide)]
        exact IH (u + 1) _ B2 f2 fT2 g2 pos2 m2 (q2 + 1) j2 k2 _ _ _ c2 lo2 (by omega) (by omega) z5 hj3
    · rw [if_neg h38]
      exact Or.inr ⟨A, f, fT, B, g, pos, m, q, j + 1, k, op, vl, vr, c, lo, rfl, rfl, hmid, hno, fun _ => h38⟩
theorem any_c {n d p : Nat} {b : Nat → Nat} {AT : Nat → Nat → Int32} (hn : n ≤ 240) (ih : CANY n b AT 1 0 d p) : CANY n b AT 0 1 (d + 1) p := by
  intro m s pos k op vl c lo A B f fT g hP ht
  have hP0 := hP
  obtain ⟨hX, hC, hLo, hM, hS, h13, hm, hs, hbd, hs0, h6, hk⟩ := hP
  show CRES n b 1 m s p pos op vl c lo A B f g (f2_anyOf (f2_anyOf_rec d) f A fT AT (nI p)) (BT k B g)
  have hpn := hC.2.2.2.2.2
  have hNF := NF_ge
  have h13' : c (s - 1) = 13 := by omega
  unfold f2_anyOf
  rcases ih m s pos k op vl c lo A B f fT g hP0 (Or.inl h13') with ⟨A2, f2, fT2, B2, g2, z1, z2, z3, z4⟩ | ⟨A2, f2, fT2, B2, g2, pos2, m2, q2, j2, k2, op2, vl2, vr2, c2, lo2, z1, z2, z4, z5, -⟩
  · left
    obtain ⟨N, hN⟩ := NF_1
    rw [z1, Option.bind_some, hN, any_dead z3.1]
    exact ⟨_, _, fT2, B2, g2, rfl, z2, z3, z4⟩
  · have hp2 := z4.2.1
    rw [z1, Option.bind_some, z2]
    exact bloop_c hn ih hbd hm hs hs0 h13' hX rfl NF 0 A2 B2 f2 fT2 g2 pos2 m2 q2 j2 k2 op2 vl2 vr2 c2 lo2 (by omega) (by omega) z5 z4.up
theorem tests_all {n : Nat} {b : Nat → Nat} {AT : Nat → Nat → Int32} (hn : n ≤ 240) : ∀ q p d, p + q = 6 → 3 * (q + 1) + 1 ≤ d → CTEST n b AT d p := by
  intro q
  induction q with
  | zero =>
    intro p d h hd
    obtain ⟨d, rfl⟩ : ∃ e, d = e + 1 := ⟨d - 1, by omega⟩
    exact test_c hn (by omega) (by omega) (fun h => absurd h (by omega)) fun h => absurd h (by omega)
  | succ q ih =>
    intro p d h hd
    obtain ⟨d, rfl⟩ : ∃ e, d = e + 3 := ⟨d - 3, by omega⟩
    exact test_c hn (by omega) (by omega) (fun _ => ih (p + 1) (d + 2) (by omega) (by omega)) fun _ => any_c hn (all_c hn (ih (p + 1) d (by omega) (by omega)))
