theorem ok_placeIs : OK_placeIs INV := by
  rintro σf σA fW AW μf μA x1 x2 hI
  have hI0 := hI
  obtain ⟨T, nx, ⟨b1, b2, b3, b4, b5, b6, b7⟩, hS, -, -, -, -, -⟩ := hI
  obtain ⟨s1, ⟨F, hF, e5, s2⟩, -⟩ := hS
  rcases told_c b1 b2 b3 x1 (AB := σA 2) (A := μA) with ⟨h1, h2⟩ | ⟨p, hp, rfl, hT, h1, h2⟩
  · exact ⟨-1, -1, by unfold f9_placeIs; rw [if_pos h1], by unfold f10_placeIs; rw [if_pos h2], rfl, hI0⟩
  · obtain ⟨⟨t, ht, t1, t2⟩, ⟨g, hg, g1, g2⟩, ⟨l, hl, l1, l2⟩⟩ := s1 p hp
    obtain ⟨w, hw⟩ : ∃ w : Nat → Nat, ∀ c, c < 8 → σA 3 3 c = nI (w c) ∧ μA 0 (56 + c) = nI (w c) ∧ w c < 16 := by
      refine ⟨fun c => if h : c < 8 then (s2 c h).2.choose else 0, fun c hc => ?_⟩
      have := (s2 c hc).2.choose_spec
      simp only [dif_pos hc]
      exact ⟨this.2.1, this.2.2.1, this.1⟩
    have m1 := standAt6 (fs := σf 3) (As := σA 3) hF e5 (fun c hc => ⟨(hw c hc).1, (hw c hc).2.2⟩) hp
    have m2 := menAt10 (f := μf) (A := μA) (F := F) (w := w) (fun c hc => (s2 c hc).1) (fun c hc => (hw c hc).2) hp
    unfold f9_placeIs f10_placeIs
    rw [h1, h2, if_neg n10, if_neg n10, at_nI hp (by decide), at_nI hp (by decide), at_nI hp (by decide), at_nI hp (by decide), m1, m2, show (0 : Int32) + nI p = nI (0 + p) from nI_add 0 p, show (16 : Int32) + nI p = nI (16 + p) from nI_add 16 p, show (32 : Int32) + nI p = nI (32 + p) from nI_add 32 p, if_neg (nI_in (by omega) (by decide)), if_neg (nI_in (by omega) (by decide)), if_neg (nI_in (by omega) (by decide)), if_neg (nI_in (by omega) (by decide)), gx_nI (by omega), gx_nI (by omega), gx_nI (by omega), gx_nI (by omega), t1, g1, l1, (b4 p hp).1, Nat.zero_add, t2, g2, l2, (b4 p hp).2.1]
    by_cases k0 : x2 = 0
    · exact ⟨_, _, if_pos k0, if_pos k0, rfl, hI0⟩
    by_cases k1 : x2 = 1
    · refine ⟨nI g, nI g, ?_, ?_, rfl, hI0⟩ <;> rw [if_neg k0, if_pos k1]
    by_cases k2 : x2 = 2
    · refine ⟨nI l, nI l, ?_, ?_, rfl, hI0⟩ <;> rw [if_neg k0, if_neg k1, if_pos k2]
    by_cases k3 : x2 = 3
    · refine ⟨nI (stands F w p), nI (stands F w p), ?_, ?_, rfl, hI0⟩ <;> (rw [if_neg k0, if_neg k1, if_neg k2, if_pos k3]; rfl)
    by_cases k4 : x2 = 4
    · refine ⟨nI (nx p), nI (nx p), ?_, ?_, rfl, hI0⟩ <;> rw [if_neg k0, if_neg k1, if_neg k2, if_neg k3, if_pos k4]
    · refine ⟨-1, -1, ?_, ?_, rfl, hI0⟩ <;> rw [if_neg k0, if_neg k1, if_neg k2, if_neg k3, if_neg k4]
theorem ok_constable : OK_constable INV := by
  rintro σf σA fW AW μf μA x1 x2 ⟨T, nx, hB, hS, hT, hW, hK, hL, hX⟩
  have hB0 := hB
  obtain ⟨b1, b2, b3, b4, b5, b6, b7⟩ := hB
  rcases within_c x1 (A := 0) (B := 7) (a := 0) (b := 7) rfl rfl (by decide) (by decide) with ⟨h, _⟩ | ⟨hc1, c, _, hc, rfl⟩
  · refine ⟨(0, σA 3, σf 3), (0, μA), ?_, ?_, rfl, T, nx, hB0, hS, hT, hW, hK, hL, hX⟩
    · unfold f9_constable; rw [if_pos h]
    · unfold f10_constable; rw [in_eq, if_pos h]
  rcases told_c b1 b2 b3 x2 (AB := σA 2) (A := μA) with ⟨h1, h2⟩ | ⟨p, hp, rfl, hTp, h1, h2⟩
  · refine ⟨(0, σA 3, σf 3), (0, μA), ?_, ?_, rfl, T, nx, hB0, hS, hT, hW, hK, hL, hX⟩
    · unfold f9_constable; rw [hc1, if_neg n10, if_pos h1]
    · unfold f10_constable; rw [in_eq, hc1, if_neg n10, if_pos h2]
  obtain ⟨s1, ⟨F, hF, e5, s2⟩, ⟨hr, s3, s4, s5, s6⟩, s7, s8, s9⟩ := hS
  refine ⟨(1, updA (updA (σA 3) 3 (upd (σA 3 3) c (nI p))) 4 (upd (σA 3 4) c 0), upd (σf 3) 5 (nI (F ||| 2 ^ c))), (1, updA (updA (updA μA 0 (upd (μA 0) (48 + c) 1)) 0 (upd (upd (μA 0) (48 + c) 1) (56 + c) (nI p))) 0 (upd (upd (upd (μA 0) (48 + c) 1) (56 + c) (nI p)) (64 + c) 0)), ?_, ?_, rfl, T, nx, hB0, ?_, hT, hW, hK, hL, hX⟩
  · unfold f9_constable
    simp only [letv]
    rw [hc1, h1, if_neg n10, if_neg n10, e5, shl1 (by omega), or_nI, put_nI (by omega) (by decide), put_nI (by omega) (by decide)]
    rfl
  · unfold f10_constable
    simp only [letv]
    rw [in_eq, hc1, h2, if_neg n10, if_neg n10, show (48 : Int32) + nI c = nI (48 + c) from nI_add 48 c, show (56 : Int32) + nI c = nI (56 + c) from nI_add 56 c, show (64 : Int32) + nI c = nI (64 + c) from nI_add 64 c, if_neg (nI_in (by omega) (by decide)), if_neg (nI_in (by omega) (by decide)), if_neg (nI_in (by omega) (by decide)), ux_nI (by omega), ux_nI (by omega), ux_nI (by omega)]
    rfl
  · show RS T (upd (σf 3) 5 (nI (F ||| 2 ^ c))) (updA (updA (σA 3) 3 (upd (σA 3 3) c (nI p))) 4 (upd (σA 3 4) c 0)) (upd (upd (upd (μA 0) (48 + c) 1) (56 + c) (nI p)) (64 + c) 0)
    have un : ∀ j, j ≠ 48 + c → j ≠ 56 + c → j ≠ 64 + c → upd (upd (upd (μA 0) (48 + c) 1) (56 + c) (nI p)) (64 + c) 0 j = μA 0 j := fun j h1 h2 h3 => by rw [upd_n h3, upd_n h2, upd_n h1]
    refine ⟨fun q hq => ?_, ⟨F ||| 2 ^ c, or_lt8 hF (by omega), upd_s, fun d hd => ?_⟩, ⟨hr, s3, s4, ?_, fun d hd => ?_⟩, ?_, ?_, ?_⟩
    · obtain ⟨g1, g2, g3⟩ := s1 q hq
      refine ⟨?_, ?_, ?_⟩
      · obtain ⟨a, b, c', d⟩ := g1; exact ⟨a, b, c', (un _ (by omega) (by omega) (by omega)).trans d⟩
      · obtain ⟨a, b, c', d⟩ := g2; exact ⟨a, b, c', (un _ (by omega) (by omega) (by omega)).trans d⟩
      · obtain ⟨a, b, c', d⟩ := g3; exact ⟨a, b, c', (un _ (by omega) (by omega) (by omega)).trans d⟩
    · obtain ⟨g1, w, g2, g3, g4, g5⟩ := s2 d hd
      by_cases e : d = c
      · subst e
        refine ⟨?_, p, hp, upd_s, ?_, fun _ => hTp⟩
        · show upd (upd (upd (μA 0) (48 + d) 1) (56 + d) (nI p)) (64 + d) 0 (48 + d) = _
          rw [upd_n (by omega), upd_n (by omega), upd_s, or_bit]
          simp
        · show upd (upd (upd (μA 0) (48 + d) 1) (56 + d) (nI p)) (64 + d) 0 (56 + d) = _
          rw [upd_n (by omega), upd_s]
      · have e' : (F ||| 2 ^ c).testBit d = F.testBit d := by
          rw [or_bit]
          simp [show ¬ c = d from fun h => e h.symm]
        rw [e']
        exact ⟨(un _ (by omega) (by omega) (by omega)).trans g1, w, g2, (upd_n e).trans g3, (un _ (by omega) (by omega) (by omega)).trans g4, g5⟩
    · exact (un _ (by omega) (by omega) (by omega)).trans s5
    · by_cases e : d = c
      · subst e
        exact ⟨0, by omega, upd_s, upd_s⟩
      · obtain ⟨a, b, d', g⟩ := s6 d hd
        exact ⟨a, b, (upd_n e).trans d', (un _ (by omega) (by omega) (by omega)).trans g⟩
    · obtain ⟨a, b, d, g⟩ := s7; exact ⟨a, b, d, (un _ (by omega) (by omega) (by omega)).trans g⟩
    · obtain ⟨a, b, d, g⟩ := s8; exact ⟨a, b, d, (un _ (by omega) (by omega) (by omega)).trans g⟩
    · obtain ⟨a, b, d, g⟩ := s9; exact ⟨a, b, d, (un _ (by omega) (by omega) (by omega)).trans g⟩
