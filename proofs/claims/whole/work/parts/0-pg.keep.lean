/-! keep, undo: rows are copied -/
theorem RS.congr {T : Nat} {fs fs' : Nat → Int32} {As As' : Nat → Nat → Int32} {An An' : Nat → Int32} (h : RS T fs As An) (hf : ∀ k, 5 ≤ k → k ≤ 9 → fs' k = fs k) (h16 : ∀ k p, k < 3 → p < 16 → As' k p = As k p) (h8 : ∀ c, c < 8 → As' 3 c = As 3 c ∧ As' 4 c = As 4 c) (hn : ∀ j, j < 76 → An' j = An j) : RS T fs' As' An' := by
  obtain ⟨h1, ⟨F, hF, e5, h2⟩, ⟨hr, h3, h4, h5, h6⟩, h7, h8', h9⟩ := h
  refine ⟨fun p hp => ?_, ⟨F, hF, (hf 5 (by omega) (by omega)).trans e5, fun c hc => ?_⟩, ⟨hr, h3, (hf 8 (by omega) (by omega)).trans h4, (hn _ (by omega)).trans h5, fun c hc => ?_⟩, ?_, ?_, ?_⟩
  · obtain ⟨⟨a, a1, a2, a3⟩, ⟨b, b1, b2, b3⟩, ⟨c, c1, c2, c3⟩⟩ := h1 p hp
    exact ⟨⟨a, a1, (h16 0 p (by omega) hp).trans a2, (hn _ (by omega)).trans a3⟩, ⟨b, b1, (h16 1 p (by omega) hp).trans b2, (hn _ (by omega)).trans b3⟩, ⟨c, c1, (h16 2 p (by omega) hp).trans c2, (hn _ (by omega)).trans c3⟩⟩
  · obtain ⟨g1, w, g2, g3, g4, g5⟩ := h2 c hc
    exact ⟨(hn _ (by omega)).trans g1, w, g2, (h8 c hc).1.trans g3, (hn _ (by omega)).trans g4, g5⟩
  · obtain ⟨v, g1, g2, g3⟩ := h6 c hc
    exact ⟨v, g1, (h8 c hc).2.trans g2, (hn _ (by omega)).trans g3⟩
  · obtain ⟨v, g1, g2, g3⟩ := h7; exact ⟨v, g1, (hf 6 (by omega) (by omega)).trans g2, (hn _ (by omega)).trans g3⟩
  · obtain ⟨v, g1, g2, g3⟩ := h8'; exact ⟨v, g1, (hf 7 (by omega) (by omega)).trans g2, (hn _ (by omega)).trans g3⟩
  · obtain ⟨v, g1, g2, g3⟩ := h9; exact ⟨v, g1, (hf 9 (by omega) (by omega)).trans g2, (hn _ (by omega)).trans g3⟩
theorem copies10 (xs ys : Nat → Int32) : ∃ zs, f10_copies 76 xs 76 ys = some zs ∧ ∀ j, j < 76 → zs j = xs j := by
  unfold f10_copies
  obtain ⟨t, ht, e⟩ := loop_0N (fun n s i => f10_copies_l2 76 xs 76 n s i) 76 (fun j s => ∀ i, i < j → s i = xs i) (fun j s => upd s j (xs j)) some (by decide)
    (fun n s _ => by
      show f10_copies_b2 76 xs 76 _ s (nI 76) = some s
      unfold f10_copies_b2
      rw [if_pos (by decide)])
    (fun n s j hj hP => ⟨fun i hi => by
      by_cases q : i = j
      · subst q; exact upd_s
      · rw [upd_n q]; exact hP i (by omega), by
      show f10_copies_b2 76 xs 76 _ s (nI j) = _
      unfold f10_copies_b2
      simp only [letv]
      rw [if_neg (ge76 hj), if_neg (nI_in hj (by decide)), if_neg (nI_in hj (by decide)), ux_nI (by omega), gx_nI (by omega), nI_s]⟩) ys (fun i hi => absurd hi (by omega))
  exact ⟨t, e, ht⟩
theorem copy6 (f0 f1 : Nat → Int32) (A0 A1 : Nat → Nat → Int32) : ∃ A', f6_copy f0 A0 f1 A1 = some (A', upd (upd (upd (upd (upd f0 5 (f1 5)) 6 (f1 6)) 7 (f1 7)) 8 (f1 8)) 9 (f1 9)) ∧ (∀ k p, k < 3 → p < 16 → A' k p = A1 k p) ∧ ∀ c, c < 8 → A' 3 c = A1 3 c ∧ A' 4 c = A1 4 c := by
  have second : ∀ B : Nat → Nat → Int32, (∀ k p, k < 3 → p < 16 → B k p = A1 k p) → ∃ A', f6_copy_l64 f1 A1 NF B f0 0 = some (A', upd (upd (upd (upd (upd f0 5 (f1 5)) 6 (f1 6)) 7 (f1 7)) 8 (f1 8)) 9 (f1 9)) ∧ (∀ k p, k < 3 → p < 16 → A' k p = A1 k p) ∧ ∀ c, c < 8 → A' 3 c = A1 3 c ∧ A' 4 c = A1 4 c := by
    intro B hB
    obtain ⟨t, ht, e⟩ := loop_0N (fun n (s : (Nat → Nat → Int32) × (Nat → Int32)) i => f6_copy_l64 f1 A1 n s.1 s.2 i) 8 (fun j s => s.2 = f0 ∧ (∀ k p, k < 3 → p < 16 → s.1 k p = A1 k p) ∧ ∀ c, c < j → s.1 3 c = A1 3 c ∧ s.1 4 c = A1 4 c)
      (fun j s => (updA (updA s.1 3 (upd (s.1 3) j (A1 3 j))) 4 (upd (s.1 4) j (A1 4 j)), s.2)) (fun s => some (s.1, upd (upd (upd (upd (upd s.2 5 (f1 5)) 6 (f1 6)) 7 (f1 7)) 8 (f1 8)) 9 (f1 9))) (by decide)
      (fun n s _ => by
        show f6_copy_b64 f1 A1 _ s.1 s.2 (nI 8) = _
        unfold f6_copy_b64
        rw [if_pos (by decide)]
        rfl)
      (fun n s j hj hP => ⟨⟨hP.1, fun k p hk hp => by
          show updA (updA s.1 3 _) 4 _ k p = _
          rw [updA_n (by omega), updA_n (by omega)]
          exact hP.2.1 k p hk hp, fun c hc => by
          refine ⟨?_, ?_⟩
          · show updA (updA s.1 3 (upd (s.1 3) j (A1 3 j))) 4 (upd (s.1 4) j (A1 4 j)) 3 c = _
            rw [updA_n (by omega), updA_s]
            by_cases q : c = j
            · subst q; exact upd_s
            · rw [upd_n q]; exact (hP.2.2 c (by omega)).1
          · show updA (updA s.1 3 (upd (s.1 3) j (A1 3 j))) 4 (upd (s.1 4) j (A1 4 j)) 4 c = _
            rw [updA_s]
            by_cases q : c = j
            · subst q; exact upd_s
            · rw [upd_n q]; exact (hP.2.2 c (by omega)).2⟩, by
        show f6_copy_b64 f1 A1 _ s.1 s.2 (nI j) = _
        unfold f6_copy_b64
        simp only [letv]
        rw [if_neg (ge8 hj), put_nI hj (by decide), at_nI hj (by decide), put_nI hj (by decide), at_nI hj (by decide), nI_s]
        rfl⟩) (B, f0) ⟨rfl, hB, fun c hc => absurd hc (by omega)⟩
    refine ⟨t.1, ?_, ht.2.1, ht.2.2⟩
    rw [ht.1] at e
    exact e
  unfold f6_copy
  obtain ⟨t, ht, e⟩ := loop_0N (fun n (s : (Nat → Nat → Int32) × (Nat → Int32)) i => f6_copy_l2 f1 A1 n s.1 s.2 i) 16 (fun j s => s.2 = f0 ∧ ∀ k p, k < 3 → p < j → s.1 k p = A1 k p)
    (fun j s => (updA (updA (updA s.1 0 (upd (s.1 0) j (A1 0 j))) 1 (upd (s.1 1) j (A1 1 j))) 2 (upd (s.1 2) j (A1 2 j)), s.2)) (fun s => f6_copy_l64 f1 A1 NF s.1 s.2 0) (by decide)
    (fun n s _ => by
      show f6_copy_b2 f1 A1 _ s.1 s.2 (nI 16) = _
      unfold f6_copy_b2
      rw [if_pos (by decide)])
    (fun n s j hj hP => ⟨⟨hP.1, fun k p hk hp => by
        show updA (updA (updA s.1 0 _) 1 _) 2 _ k p = _
        have hk' : k = 0 ∨ k = 1 ∨ k = 2 := by omega
        rcases hk' with rfl | rfl | rfl
        · rw [updA_n (by omega), updA_n (by omega), updA_s]
          by_cases q : p = j
          · subst q; exact upd_s
          · rw [upd_n q]; exact hP.2 0 p (by omega) (by omega)
        · rw [updA_n (by omega), updA_s]
          by_cases q : p = j
          · subst q; exact upd_s
          · rw [upd_n q]; exact hP.2 1 p (by omega) (by omega)
        · rw [updA_s]
          by_cases q : p = j
          · subst q; exact upd_s
          · rw [upd_n q]; exact hP.2 2 p (by omega) (by omega)⟩, by
      show f6_copy_b2 f1 A1 _ s.1 s.2 (nI j) = _
      unfold f6_copy_b2
      simp only [letv]
      rw [if_neg (ge16 hj), put_nI hj (by decide), at_nI hj (by decide), put_nI hj (by decide), at_nI hj (by decide), put_nI hj (by decide), at_nI hj (by decide), nI_s]
      rfl⟩) (A0, f0) ⟨rfl, fun k p hk hp => absurd hp (by omega)⟩
  obtain ⟨A', e2, h2, h3⟩ := second t.1 ht.2
  refine ⟨A', ?_, h2, h3⟩
  rw [ht.1] at e
  exact e.trans e2
theorem ok_keep : OK_keep INV := by
  rintro σf σA fW AW μf μA ⟨T, nx, hB, hS, hT, hW, hK, hL, hX⟩
  obtain ⟨A', e1, h16, h8⟩ := copy6 (σf 5) (σf 3) (σA 5) (σA 3)
  obtain ⟨zs, e2, hz⟩ := copies10 (μA 0) (μA 2)
  have hS0 := hS
  obtain ⟨-, -, ⟨hr, h3, h4, h5, h6⟩, -⟩ := hS0
  refine ⟨(σf 3 8, upd (σf 0) 14 1, A', upd (upd (upd (upd (upd (σf 5) 5 (σf 3 5)) 6 (σf 3 6)) 7 (σf 3 7)) 8 (σf 3 8)) 9 (σf 3 9)), (μA 0 74, updA μA 2 zs, upd μf 51 1), ?_, ?_, h4.trans h5.symm, T, nx, hB, hS, hT, hW, ?_, hL, hX⟩
  · unfold f9_keep
    rw [e1]
    rfl
  · unfold f10_keep
    simp only [letv]
    rw [e2]
    show some (updA μA 2 zs 0 (74 : Int32).toNatClampNeg, _) = _
    rw [c74]
    rfl
  · refine Or.inr ⟨rfl, rfl, ?_⟩
    refine hS.congr ?_ h16 h8 hz
    intro k hk1 hk2
    have hk : k = 5 ∨ k = 6 ∨ k = 7 ∨ k = 8 ∨ k = 9 := by omega
    rcases hk with rfl | rfl | rfl | rfl | rfl <;> rfl
theorem ok_undo : OK_undo INV := by
  rintro σf σA fW AW μf μA ⟨T, nx, hB, hS, hT, hW, hK, hL, hX⟩
  rcases hK with ⟨k1, k2⟩ | ⟨k1, k2, hKS⟩
  · refine ⟨(0, σA 3, σf 3), (0, μA), ?_, ?_, rfl, T, nx, hB, hS, hT, hW, Or.inl ⟨k1, k2⟩, hL, hX⟩
    · unfold f9_undo
      rw [if_pos k1, if_neg (fun h => h (Or.inl k1)), k1]
    · unfold f10_undo
      rw [if_pos k2]
  · obtain ⟨A', e1, h16, h8⟩ := copy6 (σf 3) (σf 5) (σA 3) (σA 5)
    obtain ⟨zs, e2, hz⟩ := copies10 (μA 2) (μA 0)
    refine ⟨(1, A', upd (upd (upd (upd (upd (σf 3) 5 (σf 5 5)) 6 (σf 5 6)) 7 (σf 5 7)) 8 (σf 5 8)) 9 (σf 5 9)), (1, updA μA 0 zs), ?_, ?_, rfl, T, nx, hB, ?_, hT, hW, Or.inr ⟨k1, k2, hKS⟩, hL, hX⟩
    · unfold f9_undo
      rw [k1, if_neg n10, e1, Option.bind_some, if_neg (show ¬ ¬ ((1 : Int32) = 0 ∨ (1 : Int32) = 1) from fun h => h (Or.inr rfl))]
    · unfold f10_undo
      rw [k2, if_neg n10, e2]
      rfl
    · refine hKS.congr ?_ h16 h8 hz
      intro k hk1 hk2
      have hk : k = 5 ∨ k = 6 ∨ k = 7 ∨ k = 8 ∨ k = 9 := by omega
      rcases hk with rfl | rfl | rfl | rfl | rfl <;> rfl
