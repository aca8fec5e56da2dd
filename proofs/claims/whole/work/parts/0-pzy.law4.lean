theorem MID.to {n L L' m0 s0 p pos0 : Nat} {op0 vl0 c0 lo0 : Nat → Nat} {A0 B0 : Nat → Nat → Int32} {f0 g0 : Nat → Int32} {A B : Nat → Nat → Int32} {f fT g : Nat → Int32} {pos mr q k : Nat} {op vl c lo : Nat → Nat} (h : MID n L m0 s0 p pos0 op0 vl0 c0 lo0 A0 B0 f0 g0 A B f fT g pos mr q k op vl c lo) (hL : (L = 2 ∧ L' = 0) ∨ (L = 0 ∧ L' = 1)) : MID n L' m0 s0 p pos0 op0 vl0 c0 lo0 A0 B0 f0 g0 A B f fT g pos mr q k op vl c lo := by
  obtain ⟨a1, a2, a3, a4, a5, a6, ⟨p1, p2, p3, p4⟩, a7⟩ := h
  refine ⟨a1, a2, a3, a4, a5, a6, ⟨by omega, by omega, p3, fun i hi => ?_⟩, a7⟩
  obtain ⟨q1, q2⟩ := p4 i hi
  exact ⟨by omega, q2⟩
theorem TOP.congr {L s : Nat} {c c' : Nat → Nat} (h : TOP L s c) (e : ∀ i, i < s → c' i = c i) : TOP L s c' := by
  intro hL
  rcases h hL with h | h
  · exact Or.inl h
  · rcases Nat.eq_zero_or_pos s with q | q
    · exact Or.inl q
    · rw [e (s - 1) (by omega)]; exact Or.inr h
theorem MID.top {n L m0 s0 p pos0 : Nat} {op0 vl0 c0 lo0 : Nat → Nat} {A0 B0 : Nat → Nat → Int32} {f0 g0 : Nat → Int32} {A B : Nat → Nat → Int32} {f fT g : Nat → Int32} {pos mr q k : Nat} {op vl c lo : Nat → Nat} (h : MID n L m0 s0 p pos0 op0 vl0 c0 lo0 A0 B0 f0 g0 A B f fT g pos mr q k op vl c lo) {L' : Nat} (ht : TOP L' s0 c0) : TOP L' s0 c := by
  obtain ⟨a1, a2, a3, a4, a5, a6, a7, a8, a9, a10⟩ := h
  exact ht.congr fun i hi => (a9 i hi).1
theorem tloop_c {n d bs p L m0 s0 pos0 : Nat} {b op0 vl0 c0 lo0 : Nat → Nat} {A0 B0 AT : Nat → Nat → Int32} {f0 g0 : Nat → Int32} (hn : n ≤ 240) (ih : FAC n b AT 5 2 d bs p) (hm0 : m0 ≤ pos0) (hs0 : s0 ≤ pos0) (hbs : bs ≤ s0) (ht : TOP 0 s0 c0) (hL : L = 0) : ∀ (K u : Nat) (A B : Nat → Nat → Int32) (f fT g : Nat → Int32) (pos mr q k : Nat) (op vl c lo : Nat → Nat), 242 ≤ K + u → u < pos → TXT n b AT B → MID n L m0 s0 p pos0 op0 vl0 c0 lo0 A0 B0 f0 g0 A B f fT g pos mr q k op vl c lo → GOT n b L bs m0 s0 p pos0 op0 vl0 c0 lo0 A0 B0 f0 g0 (f2_term_l8 (f2_anyOf_rec d) AT (nI p) K A f fT (nI u)) (f10_readsSum_l14 k B g (nI bs)) := by
  subst hL
  intro K
  induction K with
  | zero =>
    intro u A B f fT g pos mr q k op vl c lo h1 h2 hX h
    have := h.1.2.2.2.2.2
    omega
  | succ K IH =>
    intro u A B f fT g pos mr q k op vl c lo hK hu hX h
    have hC := h.1
    have hpn := hC.2.2.2.2.2
    have hkp := h.2.2.1
    have hNF := NF_ge
    obtain ⟨k, rfl⟩ : ∃ j, k = j + 1 := ⟨k - 1, by omega⟩
    have ea : f2_term_l8 (f2_anyOf_rec d) AT (nI p) (K + 1) A f fT (nI u) = f2_term_b8 (f2_anyOf_rec d) AT (nI p) (f2_term_l8 (f2_anyOf_rec d) AT (nI p) K) A f fT (nI u) := rfl
    rw [ea]
    unfold f2_term_b8
    rw [if_neg (show ¬ 240 ≤ nI u by rw [show (240 : Int32) = nI 240 from rfl, leI (by omega) (by omega)]; omega), fine_c hC.2.2.1, if_neg n10, tlook_c hX hC]
    have go : ∀ w, 4 ≤ w → w ≤ 6 → chr n b pos = nI (COP w) → GOT n b 0 bs m0 s0 p pos0 op0 vl0 c0 lo0 A0 B0 f0 g0 (f2_term_b50 (f2_anyOf_rec d) AT (nI p) (f2_term_l8 (f2_anyOf_rec d) AT (nI p) K) A f fT (nI u) (chr n b pos)) (f10_readsSum_l14 (k + 1) B g (nI bs)) := by
      intro w w4 w6 hw
      obtain ⟨B1, g1, r1, r2, r3, r4, r5, r6, r7, r8⟩ := push_c (bs := bs) hn (by decide) hX h hm0 hs0 (h.top ht) hw (by omega) w6 (Or.inl ⟨rfl, w4⟩)
      rw [r1, hw]
      unfold f2_term_b50
      simp only [letv]
      have hmid := h
      obtain ⟨-, hp0, hk, hLo, hM, hS, -, hop, hst, h13, hmp, -, -, hlf, hcf⟩ := h
      rcases ih (mr + q) (s0 + 1) (pos + 1) NF k op vl (pt c s0 w) (pt lo s0 0) A B1 f (f7_step fT AT) g1 r3 r4 hLo r5 r6 r7 (by omega) (by omega) (by omega) (fun h => absurd h (by decide)) (by omega) (by omega) with ⟨A2, f2, fT2, B2, g2, z1, z2, z3, z4⟩ | ⟨A2, f2, fT2, B2, g2, pos2, mr2, q2, k2, op2, vl2, c2, lo2, z1, z2, z3, -, -⟩
      · left
        obtain ⟨A3, f3, e3, -⟩ := order_k f2 A2 (nI (COP w)) 0
        obtain ⟨K', rfl⟩ : ∃ j, K = j + 1 := ⟨K - 1, by omega⟩
        rw [z1, Option.bind_some, e3, Option.bind_some, term_dead z3.1]
        exact ⟨_, _, _, B2, g2, rfl, z2, z3, (z4.trans r8).trans hlf⟩
      · obtain ⟨A3, f3, e3, hm⟩ := join_c hn hmid hm0 r8 z3 (by omega) w6 (Or.inl ⟨rfl, rfl, w4⟩)
        have hX2 : TXT n b AT B2 := r3.congr (z3.2.2.2.2.2.2.2.2.2.2.2.2.2.1.1 7 (by decide) (by decide))
        rw [z1, Option.bind_some, e3, Option.bind_some, nI_s, z2]
        have hp2 := z3.2.1
        exact IH (u + 1) A3 B2 f3 fT2 g2 pos2 mr2 (q2 + 1) k2 _ _ c2 lo2 (by omega) (by omega) hX2 hm
    by_cases h1 : chr n b pos = 42
    · rw [if_pos h1]; exact go 4 (by decide) (by decide) h1
    rw [if_neg h1]
    by_cases h2 : chr n b pos = 47
    · rw [if_pos h2]; exact go 5 (by decide) (by decide) h2
    rw [if_neg h2]
    by_cases h3 : chr n b pos = 37
    · rw [if_pos h3]; exact go 6 (by decide) (by decide) h3
    rw [if_neg h3]
    right
    exact ⟨A, f, fT, B, g, pos, mr, q, k + 1, op, vl, c, lo, rfl, rfl, h, fun _ => ⟨h1, h2, h3⟩, fun h => absurd h (by decide)⟩
theorem term_c {n d bs p : Nat} {b : Nat → Nat} {AT : Nat → Nat → Int32} (hn : n ≤ 240) (ih : FAC n b AT 5 2 d bs p) : FAC n b AT 4 0 (d + 1) bs p := by
  intro m s pos i k op vl c lo A B f fT g hX hC hLo hM hS h13 hm hs hbs ht hi hk
  show GOT n b 0 bs m s p pos op vl c lo A B f g (f2_term (f2_anyOf_rec d) f A fT AT (nI p)) _
  unfold f2_term
  have hNF := NF_ge
  rcases ih m s pos i k op vl c lo A B f fT g hX hC hLo hM hS h13 hm hs hbs (fun h => absurd h (by decide)) hi hk with ⟨A2, f2, fT2, B2, g2, z1, z2, z3, z4⟩ | ⟨A2, f2, fT2, B2, g2, pos2, mr2, q2, k2, op2, vl2, c2, lo2, z1, z2, z3, -, -⟩
  · left
    obtain ⟨N, hN⟩ := NF_1
    rw [z1, Option.bind_some, hN, term_dead z3.1]
    exact ⟨_, _, _, B2, g2, rfl, z2, z3, z4⟩
  · have hX2 : TXT n b AT B2 := hX.congr (z3.2.2.2.2.2.2.2.2.2.2.2.2.2.1.1 7 (by decide) (by decide))
    have hp2 := z3.2.1
    rw [z1, Option.bind_some, z2]
    exact tloop_c hn ih hm hs hbs ht rfl NF 0 A2 B2 f2 fT2 g2 pos2 mr2 q2 k2 op2 vl2 c2 lo2 (by omega) (by omega) hX2 (z3.to (Or.inl ⟨rfl, rfl⟩))
theorem sloop_c {n d bs p L m0 s0 pos0 : Nat} {b op0 vl0 c0 lo0 : Nat → Nat} {A0 B0 AT : Nat → Nat → Int32} {f0 g0 : Nat → Int32} (hn : n ≤ 240) (ih : FAC n b AT 4 0 d bs p) (hm0 : m0 ≤ pos0) (hs0 : s0 ≤ pos0) (hbs : bs ≤ s0) (ht : TOP 1 s0 c0) (hL : L = 1) : ∀ (K u : Nat) (A B : Nat → Nat → Int32) (f fT g : Nat → Int32) (pos mr q k : Nat) (op vl c lo : Nat → Nat), 242 ≤ K + u → u < pos → TXT n b AT B → (chr n b pos ≠ 42 ∧ chr n b pos ≠ 47 ∧ chr n b pos ≠ 37) → MID n L m0 s0 p pos0 op0 vl0 c0 lo0 A0 B0 f0 g0 A B f fT g pos mr q k op vl c lo → GOT n b L bs m0 s0 p pos0 op0 vl0 c0 lo0 A0 B0 f0 g0 (f2_sum_l8 (f2_anyOf_rec d) AT (nI p) K A f fT (nI u)) (f10_readsSum_l14 k B g (nI bs)) := by
  subst hL
  intro K
  induction K with
  | zero =>
    intro u A B f fT g pos mr q k op vl c lo h1 h2 hX _ h
    have := h.1.2.2.2.2.2
    omega
  | succ K IH =>
    intro u A B f fT g pos mr q k op vl c lo hK hu hX hno h
    have hC := h.1
    have hpn := hC.2.2.2.2.2
    have hkp := h.2.2.1
    have hNF := NF_ge
    obtain ⟨k, rfl⟩ : ∃ j, k = j + 1 := ⟨k - 1, by omega⟩
    have ea : f2_sum_l8 (f2_anyOf_rec d) AT (nI p) (K + 1) A f fT (nI u) = f2_sum_b8 (f2_anyOf_rec d) AT (nI p) (f2_sum_l8 (f2_anyOf_rec d) AT (nI p) K) A f fT (nI u) := rfl
    rw [ea]
    unfold f2_sum_b8
    rw [if_neg (show ¬ 240 ≤ nI u by rw [show (240 : Int32) = nI 240 from rfl, leI (by omega) (by omega)]; omega), fine_c hC.2.2.1, if_neg n10, tlook_c hX hC]
    have go : ∀ w, 2 ≤ w → w ≤ 3 → chr n b pos = nI (COP w) → GOT n b 1 bs m0 s0 p pos0 op0 vl0 c0 lo0 A0 B0 f0 g0 (f2_sum_b43 (f2_anyOf_rec d) AT (nI p) (f2_sum_l8 (f2_anyOf_rec d) AT (nI p) K) A f fT (nI u) (chr n b pos)) (f10_readsSum_l14 (k + 1) B g (nI bs)) := by
      intro w w4 w6 hw
      obtain ⟨B1, g1, r1, r2, r3, r4, r5, r6, r7, r8⟩ := push_c (bs := bs) hn (by decide) hX h hm0 hs0 (h.top ht) hw w4 (by omega) (Or.inr ⟨rfl, w6⟩)
      rw [r1, hw]
      unfold f2_sum_b43
      simp only [letv]
      have hmid := h
      obtain ⟨-, hp0, hk, hLo, hM, hS, -, hop, hst, h13, hmp, -, -, hlf, hcf⟩ := h
      rcases ih (mr + q) (s0 + 1) (pos + 1) NF k op vl (pt c s0 w) (pt lo s0 0) A B1 f (f7_step fT AT) g1 r3 r4 hLo r5 r6 r7 (by omega) (by omega) (by omega) (fun _ => Or.inr ⟨Or.inl (by rw [Nat.add_sub_cancel, pt_s]; omega), fun h => absurd h (by decide)⟩) (by omega) (by omega) with ⟨A2, f2, fT2, B2, g2, z1, z2, z3, z4⟩ | ⟨A2, f2, fT2, B2, g2, pos2, mr2, q2, k2, op2, vl2, c2, lo2, z1, z2, z3, z5, -⟩
      · left
        obtain ⟨A3, f3, e3, -⟩ := order_k f2 A2 (nI (COP w)) 0
        obtain ⟨K', rfl⟩ : ∃ j, K = j + 1 := ⟨K - 1, by omega⟩
        rw [z1, Option.bind_some, e3, Option.bind_some, sum_dead z3.1]
        exact ⟨_, _, _, B2, g2, rfl, z2, z3, (z4.trans r8).trans hlf⟩
      · obtain ⟨A3, f3, e3, hm⟩ := join_c hn hmid hm0 r8 z3 w4 (by omega) (Or.inr ⟨rfl, rfl, w6⟩)
        have hX2 : TXT n b AT B2 := r3.congr (z3.2.2.2.2.2.2.2.2.2.2.2.2.2.1.1 7 (by decide) (by decide))
        rw [z1, Option.bind_some, e3, Option.bind_some, nI_s, z2]
        have hp2 := z3.2.1
        exact IH (u + 1) A3 B2 f3 fT2 g2 pos2 mr2 (q2 + 1) k2 _ _ c2 lo2 (by omega) (by omega) hX2 (z5 (by decide)) hm
    by_cases h1 : chr n b pos = 43
    · rw [if_pos h1]; exact go 2 (by decide) (by decide) h1
    rw [if_neg h1]
    by_cases h2 : chr n b pos = 45
    · rw [if_pos h2]; exact go 3 (by decide) (by decide) h2
    rw [if_neg h2]
    right
    exact ⟨A, f, fT, B, g, pos, mr, q, k + 1, op, vl, c, lo, rfl, rfl, h, fun _ => hno, fun _ => ⟨h1, h2⟩⟩
theorem sum_c {n d bs p : Nat} {b : Nat → Nat} {AT : Nat → Nat → Int32} (hn : n ≤ 240) (ih : FAC n b AT 4 0 d bs p) : FAC n b AT 3 1 (d + 1) bs p := by
  intro m s pos i k op vl c lo A B f fT g hX hC hLo hM hS h13 hm hs hbs ht hi hk
  show GOT n b 1 bs m s p pos op vl c lo A B f g (f2_sum (f2_anyOf_rec d) f A fT AT (nI p)) _
  unfold f2_sum
  have hNF := NF_ge
  have ht0 : TOP 0 s c := fun _ => by
    rcases ht (by decide) with h | ⟨h, _⟩
    · exact Or.inl h
    · exact Or.inr ⟨h, fun h => absurd h (by decide)⟩
  rcases ih m s pos i k op vl c lo A B f fT g hX hC hLo hM hS h13 hm hs hbs ht0 hi hk with ⟨A2, f2, fT2, B2, g2, z1, z2, z3, z4⟩ | ⟨A2, f2, fT2, B2, g2, pos2, mr2, q2, k2, op2, vl2, c2, lo2, z1, z2, z3, z5, -⟩
  · left
    obtain ⟨N, hN⟩ := NF_1
    rw [z1, Option.bind_some, hN, sum_dead z3.1]
    exact ⟨_, _, _, B2, g2, rfl, z2, z3, z4⟩
  · have hX2 : TXT n b AT B2 := hX.congr (z3.2.2.2.2.2.2.2.2.2.2.2.2.2.1.1 7 (by decide) (by decide))
    have hp2 := z3.2.1
    rw [z1, Option.bind_some, z2]
    exact sloop_c hn ih hm hs hbs ht rfl NF 0 A2 B2 f2 fT2 g2 pos2 mr2 q2 k2 op2 vl2 c2 lo2 (by omega) (by omega) hX2 (z5 (by decide)) (z3.to (Or.inr ⟨rfl, rfl⟩))
