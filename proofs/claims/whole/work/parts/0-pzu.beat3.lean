theorem S2_S0 {c x : Int32} {n pos i k : Nat} {b : Nat → Nat} {AT B : Nat → Nat → Int32} {fT g : Nat → Int32} (hX : TXT n b AT B) (hC : CUR n pos fT g) (h41 : ¬ chr n b pos = 41) (hlt : pos < n) : S2 c x (i + 1) (k + 1) B g = S0 c x NF k B g := by
  have e : S2 c x (i + 1) (k + 1) B g = (f10_readsStep_b218 (f10_readsStep_l218 i) B g).bind fun q => f10_beat_l50 c x (k + 1) q.2.1 q.2.2 q.1 := rfl
  have hn := hX.1
  rw [e]
  unfold f10_readsStep_b218
  rw [here_c hX hC, Option.bind_some, if_neg h41, Option.bind_some]
  show f10_beat_b50 c x (f10_beat_l50 c x k) B g 1 = _
  unfold f10_beat_b50
  rw [if_neg n10, hC.2.2.2.2.1, hC.2.2.2.1, if_pos (show nI pos < nI n by rw [ltI (by omega) (by omega)]; exact hlt)]
  rfl
theorem items_c {c x : Int32} {n d op : Nat} {b : Nat → Nat} {AT : Nat → Nat → Int32} (hn : n ≤ 60) (hop : op ≤ 2) (ih : op < 2 → ITS c x n b AT d (op + 1)) : ∀ (K u pos l i k : Nat) (A B : Nat → Nat → Int32) (f fT g : Nat → Int32), 62 ≤ K + u → u < 60 → u ≤ pos → TXT n b AT B → CUR n pos fT g → STP l (A 0) (B 31) → f 1 = nI l → g 35 = nI l → g 36 = nI op → 500 < i + pos → 500 < k + pos → BOK c x n b true op pos l B g (f0_items_l5 (f0_items_rec (d + 2)) AT (nI op) K A f fT 1 (nI u)) (S0 c x i k B g) := by
  intro K
  induction K with
  | zero => intro u pos l i k A B f fT g h1 h2; omega
  | succ K IH =>
    intro u pos l i k A B f fT g hK hu hup hX hC hS h1 h35 h36 hi hk
    have ea : ∀ K A f fT r u, f0_items_l5 (f0_items_rec (d + 2)) AT (nI op) (K + 1) A f fT r u = f0_items_b5 (f0_items_rec (d + 2)) AT (nI op) (f0_items_l5 (f0_items_rec (d + 2)) AT (nI op) K) A f fT r u := fun _ _ _ _ _ _ => rfl
    have stop : ∀ A f fT u, f0_items_l5 (f0_items_rec (d + 2)) AT (nI op) K A f fT 0 u = some (A, f, fT) := by
      intro A f fT u
      obtain ⟨K', rfl⟩ : ∃ j, K = j + 1 := ⟨K - 1, by omega⟩
      rw [ea]
      unfold f0_items_b5
      rw [if_pos rfl]
    rw [ea]
    unfold f0_items_b5
    rw [if_neg n10, if_neg (show ¬ 60 ≤ nI u by rw [show (60 : Int32) = nI 60 from rfl, leI (by omega) (by omega)]; omega)]
    rcases item_c hn hop ih pos l i k A B f fT g hX hC hS h1 h35 h36 hi hk with ⟨A', f', fT', B', g', z1, z2, z3, z4⟩ | ⟨A', f', fT', B', g', pos', l', i', k', z1, z2, z3, z4, z5, z6, z7, z8, z9, z10, z11, z12, -⟩
    · left
      rw [z1, Option.bind_some, fine_n z3.1, if_pos rfl, stop]
      exact ⟨A', f', fT', B', g', rfl, z2, z3, z4⟩
    have hX' : TXT n b AT B' := hX.congr (z10.1 7 (by decide) (by decide) (by decide) (by decide))
    have hp' := z3.2.2.2.2.2
    rw [z1, Option.bind_some, fine_c z3.2.2.1, if_neg n10, tlook_c hX' z3]
    by_cases hend : chr n b pos' = -1
    · right
      rw [if_pos hend, stop]
      exact ⟨A', f', fT', B', g', pos', l', i', k', rfl, z2, z3, z4, z5, z6, z7, z8, z9, z10, z11, z12, fun _ => Or.inl hend⟩
    rw [if_neg hend]
    by_cases h41 : chr n b pos' = 41
    · right
      rw [if_pos h41, stop]
      exact ⟨A', f', fT', B', g', pos', l', i', k', rfl, z2, z3, z4, z5, z6, z7, z8, z9, z10, z11, z12, fun _ => Or.inr h41⟩
    have hlt : pos' < n := Classical.byContradiction fun q => hend ((chr_end hX.2.1).mpr q)
    obtain ⟨i', rfl⟩ : ∃ j, i' = j + 1 := ⟨i' - 1, by omega⟩
    obtain ⟨k', rfl⟩ : ∃ j, k' = j + 1 := ⟨k' - 1, by omega⟩
    have hNF := NF_ge
    rw [if_neg h41, nI_s, z2, S2_S0 hX' z3 h41 hlt]
    rcases IH (u + 1) pos' l' NF k' A' B' f' fT' g' (by omega) (by omega) (by omega) hX' z3 z6 z7 z8 z9 (by omega) (by omega) with ⟨A2, f2, fT2, B2, g2, y1, y2, y3, y4⟩ | ⟨A2, f2, fT2, B2, g2, pos2, l2, i2, k2, y1, y2, y3, y4, y5, y6, y7, y8, y9, y10, y11, y12, y13⟩
    · left
      exact ⟨A2, f2, fT2, B2, g2, y1, y2, y3, y4.trans (z10.mono (Nat.zero_le _))⟩
    · right
      exact ⟨A2, f2, fT2, B2, g2, pos2, l2, i2, k2, y1, y2, y3, by omega, by omega, y6, y7, y8, y9, y10.trans z10, y11, y12, y13⟩
theorem its_c {c x : Int32} {n d op : Nat} {b : Nat → Nat} {AT : Nat → Nat → Int32} (hn : n ≤ 60) (hop : op ≤ 2) (ih : op < 2 → ITS c x n b AT d (op + 1)) : ITS c x n b AT (d + 3) op := by
  intro pos l i k A B f fT g hX hC hS h1 h35 h36 hi hk
  have hNF := NF_ge
  exact items_c hn hop ih NF 0 pos l i k A B f fT g (by omega) (by omega) (by omega) hX hC hS h1 h35 h36 hi hk
theorem its_all {c x : Int32} {n : Nat} {b : Nat → Nat} {AT : Nat → Nat → Int32} (hn : n ≤ 60) : ITS c x n b AT 64 0 :=
  its_c (d := 61) hn (by omega) fun _ => its_c (d := 58) hn (by omega) fun _ => its_c (d := 55) hn (by omega) fun h => absurd h (by omega)
/-- the copy behind a good reading -/
theorem copies_beat {x : Int32} {c l : Nat} {B : Nat → Nat → Int32} {g : Nat → Int32} (hc : c < 8) (hl : l ≤ 48) (h35 : g 35 = nI l) : ∃ B', f10_beat_l107 (nI c) x NF B g 0 = some (nI l, B', g) ∧ (∀ k, k < l → B' 5 (48 * c + k) = B 31 k) ∧ (∀ i, (∀ k, k < l → i ≠ 48 * c + k) → B' 5 i = B 5 i) ∧ ∀ j, j ≠ 5 → B' j = B j := by
  refine loop_one (fun k (s : (Nat → Nat → Int32) × Int32) => f10_beat_l107 (nI c) x k s.1 g s.2) l (fun u s => ∃ B', s = (B', nI u) ∧ (∀ k, k < u → B' 5 (48 * c + k) = B 31 k) ∧ (∀ i, (∀ k, k < u → i ≠ 48 * c + k) → B' 5 i = B 5 i) ∧ ∀ j, j ≠ 5 → B' j = B j) (fun P => ∃ B', P = some (nI l, B', g) ∧ (∀ k, k < l → B' 5 (48 * c + k) = B 31 k) ∧ (∀ i, (∀ k, k < l → i ≠ 48 * c + k) → B' 5 i = B 5 i) ∧ ∀ j, j ≠ 5 → B' j = B j) (by omega) ?_ (B, 0) ⟨B, rfl, fun k h => absurd h (by omega), fun _ _ => rfl, fun _ _ => rfl⟩
  rintro k u s hu ⟨B', rfl, h1, h2, h3⟩
  have ea : ∀ k B u, f10_beat_l107 (nI c) x (k + 1) B g u = f10_beat_b107 (nI c) x (f10_beat_l107 (nI c) x k) B g u := fun _ _ _ => rfl
  simp only [ea]
  unfold f10_beat_b107
  rw [h35]
  by_cases h : l ≤ u
  · left
    rw [if_pos (show nI l ≤ nI u by rw [leI (by omega) (by omega)]; exact h)]
    have : u = l := by omega
    subst this
    exact ⟨B', rfl, h1, h2, h3⟩
  right
  rw [if_neg (show ¬ nI l ≤ nI u by rw [leI (by omega) (by omega)]; exact h), if_neg (nI_in (show u < 48 by omega) (by decide)), show (48 : Int32) = nI 48 from rfl, mulI, addI, if_neg (nI_in (show 48 * c + u < 384 by omega) (by decide)), gx_nI (by omega), ux_nI (by omega), nI_s]
  simp only [letv]
  refine ⟨by omega, (updA B' 5 (upd (B' 5) (48 * c + u) (B' 31 u)), nI (u + 1)), rfl, _, rfl, fun k hk => ?_, fun i hi => ?_, fun j hj => (updA_n hj).trans (h3 j hj)⟩
  · show updA B' 5 (upd (B' 5) (48 * c + u) (B' 31 u)) 5 (48 * c + k) = _
    rw [updA_s]
    by_cases e : k = u
    · subst e; rw [upd_s, h3 31 (by decide)]
    · rw [upd_n (by omega)]; exact h1 k (by omega)
  · show updA B' 5 (upd (B' 5) (48 * c + u) (B' 31 u)) 5 i = _
    rw [updA_s, upd_n (hi u (by omega))]
    exact h2 i fun k hk => hi k (by omega)
theorem ok_beat : OK_beat INV := by
  rintro σf σA fW AW μf μA x1 x2 hI
  have hI0 := hI
  obtain ⟨T, nx, hB, hS, hT, hW, hK, hL, hX⟩ := hI
  obtain ⟨sz, b, t1, t2, t3, t4, t5⟩ := hT.bytes
  have hNF := NF_ge
  have none : ∃ (r : Int32 × (Nat → Int32) × (Nat → Nat → Nat → Int32) × (Nat → Nat → Int32) × (Nat → Nat → Int32) × (Nat → Int32)) (r' : Int32 × (Nat → Nat → Int32) × (Nat → Int32)), some ((-1 : Int32), σf 1, AW, fW, σA 9, σf 9) = some r ∧ some ((-1 : Int32), μA, μf) = some r' ∧ r.1 = (r'.1) ∧ INV (cset (cset σf 1 (r.2.1)) 9 (r.2.2.2.2.2)) (cset σA 9 (r.2.2.2.2.1)) (r.2.2.2.1) (r.2.2.1) (r'.2.2) (r'.2.1) := ⟨_, _, rfl, rfl, rfl, by rw [cset_id, cset_id, cset_id]; exact hI0⟩
  unfold f9_beat f10_beat
  rw [in_eq]
  rcases within_c x1 (A := 0) (B := 8 - 1) (a := 0) (b := 7) rfl rfl (by decide) (by decide) with ⟨h, _⟩ | ⟨h, c, _, hc, rfl⟩
  · rw [if_pos h, if_pos (show f9_within x1 0 7 = 0 from h)]; exact none
  rw [h, if_neg n10, show f9_within (nI c) 0 7 = 1 from h, if_neg n10]
  rcases within_c x2 (A := 1) (B := 60) (a := 1) (b := 60) rfl rfl (by decide) (by decide) with ⟨h, _⟩ | ⟨h, n, hn0, hn, rfl⟩
  · rw [if_pos h, if_pos h]; exact none
  rw [h, if_neg n10, if_neg n10, holds_c t2 t1 (by omega), t3]
  by_cases hsz : ¬ n ≤ sz
  · rw [if_neg hsz, if_pos (show nI 0 = (0 : Int32) from rfl), if_neg (show ¬ nI n ≤ nI sz by rw [leI (by omega) (by omega)]; exact hsz)]
    exact none
  replace hsz : n ≤ sz := Classical.not_not.mp hsz
  rw [if_pos hsz, if_neg (show ¬ nI 1 = 0 by decide), if_pos (show nI n ≤ nI sz by rw [leI (by omega) (by omega)]; exact hsz)]
  simp only [letv]
  obtain ⟨hC, hbf⟩ := begins_c (σf1 := σf 1) (μf := μf) (A1 := σA 1) (A0 := μA) (n := n)
  generalize hg0 : upd (upd (f10_beginsText μf μA (nI n)) 35 0) 36 0 = g0
  have hC0 : CUR n 0 (f7_open (σf 1) (σA 1) (nI n)) g0 := hC.congr (by rw [← hg0, upd_n (by decide)]; exact upd_n (by decide)) (by rw [← hg0, upd_n (by decide)]; exact upd_n (by decide))
  have g35 : g0 35 = nI 0 := by rw [← hg0, upd_n (by decide)]; exact upd_s
  have g36 : g0 36 = nI 0 := by rw [← hg0]; exact upd_s
  have gfr : ∀ j, j ≠ 9 → j ≠ 10 → j ≠ 14 → j ≠ 16 → j ≠ 35 → j ≠ 36 → g0 j = μf j := fun j a b c d e f => by rw [← hg0, upd_n f, upd_n e]; exact hbf j a b c d
  have hX0 : TXT n b (σA 1) μA := ⟨by omega, t4, fun i hi => (t5 i (by omega)).1, fun i hi => (t5 i (by omega)).2⟩
  have key : BOK (nI c) (nI n) n b true 0 0 0 μA g0 (f0_items_rec 64 0 (upd (σf 9) 1 0) (σA 9) (f7_open (σf 1) (σA 1) (nI n)) (σA 1) 0) (S0 (nI c) (nI n) NF NF μA g0) := its_all hn 0 0 NF NF (σA 9) μA (upd (σf 9) 1 0) (f7_open (σf 1) (σA 1) (nI n)) g0 hX0 hC0 ⟨by omega, fun i h => absurd h (by omega)⟩ upd_s g35 g36 (by omega) (by omega)
  have eS : ((f10_readsStep g0 μA).bind fun q_4 => f10_beat_l50 (nI c) (nI n) NF q_4.2.1 q_4.2.2 q_4.1) = S0 (nI c) (nI n) NF NF μA g0 := rfl
  rw [eS]
  unfold f0_read
  simp only [letv]
  -- what stays
  have build : ∀ (fT' : Nat → Int32) (X : Nat → Nat → Int32) (Y : Nat → Int32) (FW : Nat → Nat → Int32) (BW : Nat → Nat → Nat → Int32) (Z : Nat → Nat → Int32) (g' : Nat → Int32), fT' 1 = 0 → (∀ j, j ≠ 9 → j ≠ 11 → j ≠ 35 → j ≠ 36 → j ≠ 37 → j ≠ 38 → g' j = g0 j) → RW FW BW (Z 4) (Z 5) → (∀ j, j ≠ 4 → j ≠ 5 → j ≠ 31 → j ≠ 32 → j ≠ 33 → j ≠ 34 → Z j = μA j) → INV (cset (cset σf 1 fT') 9 Y) (cset σA 9 X) FW BW (upd g' 8 0) Z := by
    intro fT' X Y FW BW Z g' h1 h2 h3 h4
    have fg : ∀ j, j ≠ 8 → j ≠ 9 → j ≠ 10 → j ≠ 11 → j ≠ 14 → j ≠ 16 → j ≠ 35 → j ≠ 36 → j ≠ 37 → j ≠ 38 → upd g' 8 0 j = μf j := fun j a b c d e f h k l m => by
      rw [upd_n a, h2 j b d h k l m, gfr j b c e f h k]
    refine ⟨T, nx, ?_, ?_, ⟨0, by decide, h1, upd_s, fun i hi => absurd hi (by omega)⟩, h3, ?_, ?_, ?_⟩
    · show RB T nx (σf 2 0) (upd g' 8 0 6) (σA 2 1) (Z 3)
      rw [fg 6 (by decide) (by decide) (by decide) (by decide) (by decide) (by decide) (by decide) (by decide) (by decide) (by decide), h4 3 (by decide) (by decide) (by decide) (by decide) (by decide) (by decide)]; exact hB
    · show RS T (σf 3) (σA 3) (Z 0)
      rw [h4 0 (by decide) (by decide) (by decide) (by decide) (by decide) (by decide)]; exact hS
    · show RK T (σf 0 14) (upd g' 8 0 51) (σf 5) (σA 5) (Z 2)
      rw [fg 51 (by decide) (by decide) (by decide) (by decide) (by decide) (by decide) (by decide) (by decide) (by decide) (by decide), h4 2 (by decide) (by decide) (by decide) (by decide) (by decide) (by decide)]; exact hK
    · exact LAWR.congr (fL := σf 10) (AL := σA 10) (g := μf) (B := μA) hL rfl (fun _ _ => rfl) (fg 17 (by decide) (by decide) (by decide) (by decide) (by decide) (by decide) (by decide) (by decide) (by decide) (by decide)) (fun j h1 h2 => h4 j (by omega) (by omega) (by omega) (by omega) (by omega) (by omega))
    · show RX (σA 12 0) (Z 43)
      rw [h4 43 (by decide) (by decide) (by decide) (by decide) (by decide) (by decide)]; exact hX
  have flt : ∀ (A' : Nat → Nat → Int32) (f' fT' : Nat → Int32) (B' : Nat → Nat → Int32) (g' : Nat → Int32), FLT fT' g' → BFR 0 B' μA g' g0 → ∃ (r : Int32 × (Nat → Int32) × (Nat → Nat → Nat → Int32) × (Nat → Nat → Int32) × (Nat → Nat → Int32) × (Nat → Int32)) (r' : Int32 × (Nat → Nat → Int32) × (Nat → Int32)), some (f7_answer fT' (σA 1) (f' 1), fT', AW, fW, A', f') = some r ∧ f10_beat_b80 (nI c) (nI n) B' g' 0 = some r' ∧ r.1 = (r'.1) ∧ INV (cset (cset σf 1 (r.2.1)) 9 (r.2.2.2.2.2)) (cset σA 9 (r.2.2.2.2.1)) (r.2.2.2.1) (r.2.2.1) (r'.2.2) (r'.2.1) := by
    intro A' f' fT' B' g' h1 h2
    refine ⟨_, (upd g' 8 0 11, B', upd g' 8 0), rfl, ?_, ?_, build fT' A' f' fW AW B' g' h1.2.2 h2.2.2 ?_ fun j _ _ a b c d => h2.1 j a b c d⟩
    · unfold f10_beat_b80
      simp only [letv]
      rw [if_pos trivial]
    · show f7_answer fT' (σA 1) (f' 1) = upd g' 8 0 11
      rw [answer_flt h1, upd_n (by decide)]
    · rw [h2.1 4 (by decide) (by decide) (by decide) (by decide), h2.1 5 (by decide) (by decide) (by decide) (by decide)]; exact hW
  rcases key with ⟨A', f', fT', B', g', z1, z2, z3, z4⟩ | ⟨A', f', fT', B', g', pos', l', i', k', z1, z2, z3, z4, z5, z6, z7, z8, z9, z10, z11, z12, z13⟩
  · rw [z1, Option.bind_some, fine_n z3.1, if_pos rfl, Option.bind_some, fine_n z3.1, if_pos rfl, z2]
    exact flt A' f' fT' B' g' z3 z4
  have hX' : TXT n b (σA 1) B' := hX0.congr (z10.1 7 (by decide) (by decide) (by decide) (by decide))
  have hp' := z3.2.2.2.2.2
  obtain ⟨i', rfl⟩ : ∃ j, i' = j + 1 := ⟨i' - 1, by omega⟩
  obtain ⟨k', rfl⟩ : ∃ j, k' = j + 1 := ⟨k' - 1, by omega⟩
  have e218 : S2 (nI c) (nI n) (i' + 1) (k' + 1) B' g' = (f10_readsStep_b218 (f10_readsStep_l218 i') B' g').bind fun q => f10_beat_l50 (nI c) (nI n) (k' + 1) q.2.1 q.2.2 q.1 := rfl
  have e50 : f10_beat_l50 (nI c) (nI n) (k' + 1) B' g' 1 = f10_beat_b50 (nI c) (nI n) (f10_beat_l50 (nI c) (nI n) k') B' g' 1 := rfl
  rw [z1, Option.bind_some, fine_c z3.2.2.1, if_neg n10, tlook_c hX' z3, z2, e218]
  unfold f10_readsStep_b218
  rw [here_c hX' z3, Option.bind_some, z9]
  rcases z13 rfl with hend | h41
  · -- all is read
    have nlt := (chr_end hX0.2.1).mp hend
    rw [if_pos hend, Option.bind_some, fine_c z3.2.2.1, if_neg n10, if_neg (show ¬ chr n b pos' = 41 by rw [hend]; decide), Option.bind_some, e50]
    unfold f10_beat_b50 f10_beat_b80
    simp only [letv]
    have ic : ¬ (nI c < 0 ∨ 8 ≤ (nI c).toNatClampNeg) := nI_in (show c < 8 by omega) (by decide)
    rw [if_neg n10, z3.2.2.2.2.1, z3.2.2.2.1, if_neg (show ¬ nI pos' < nI n by rw [ltI (by omega) (by omega)]; exact nlt), z9, if_pos (show nI 0 ≤ (0 : Int32) by decide), if_neg n10, if_neg ic, if_neg ic, nI_cl (by omega), ux_nI (by omega), upd_n (show (35 : Nat) ≠ 8 by decide), z8]
    obtain ⟨B2, y1, y2, y3, y4⟩ := copies_beat (x := nI n) (c := c) (l := l') (B := updA B' 4 (upd (B' 4) c (nI l'))) (g := upd g' 8 0) (by omega) z6.1 ((upd_n (by decide)).trans z8)
    rw [y1]
    refine ⟨_, _, rfl, rfl, ?_, build fT' (AW c) (fW c) (va_up fW c f') (va_up AW c A') B2 g' z3.1.2 z10.2.2 ?_ fun j a b c d e f => (y4 j b).trans ((updA_n a).trans (z10.1 j c d e f))⟩
    · show f7_answer fT' (σA 1) (f' 1) = nI l'
      rw [answer_ok z3.2.2.1, z7]
    · intro c' hc'
      unfold va_up
      rw [y4 4 (by decide), updA_s]
      by_cases e : c' = c
      · subst e
        refine ⟨l', z6.1, ?_, upd_s, fun k hk => ?_⟩
        · rw [if_pos rfl]; exact z7
        · rw [if_pos rfl, y2 k hk, updA_n (by decide)]
          exact z6.2 k hk
      · obtain ⟨m, w1, w2, w3, w4⟩ := hW c' hc'
        refine ⟨m, w1, ?_, ?_, fun k hk => ?_⟩
        · rw [if_neg e]; exact w2
        · rw [upd_n e, z10.1 4 (by decide) (by decide) (by decide) (by decide)]; exact w3
        · have hl := z6.1
          rw [if_neg e, y3 _ (fun k' hk' => by omega), updA_n (by decide), z10.1 5 (by decide) (by decide) (by decide) (by decide)]
          exact w4 k hk
  · -- a round closes that never opened
    have hlt := chr_lt (c := 41) h41 (by omega)
    have hne : ¬ chr n b pos' = -1 := by rw [h41]; decide
    have hfl : (f7_fail fT' (σA 1) 1) 4 ≠ 0 := by
      show f7_failAt fT' (σA 1) 1 (fT' 3) 4 ≠ 0
      rw [fail_c z3.2.2.1, upd_n (by decide), upd_s]; decide
    rw [if_neg hne, Option.bind_some, fine_n hfl, if_pos rfl, if_pos h41, if_pos (show nI 0 ≤ (0 : Int32) by decide), Option.bind_some, e50]
    unfold f10_beat_b50
    rw [if_neg n10, z3.2.2.2.2.1, z3.2.2.2.1, if_pos (show nI pos' < nI n by rw [ltI (by omega) (by omega)]; exact hlt)]
    obtain ⟨fT5, g5, pos5, t5, y1, y2, y3, y4, y5, -, -, y8, y9⟩ := times_c hX' z3
    have hw : f9_within (chr n b pos') 50 57 = 0 := by rw [h41]; decide
    rcases y9 with ⟨-, e9, -⟩ | ⟨e9, -⟩
    · have e5 : pos5 = pos' := by
        have h1 := y5.2.1
        rw [e9, z3.2.1] at h1
        have := y5.2.2.2.2.2
        rw [eqI (by omega) (by omega)] at h1
        exact h1.symm
      subst e5
      obtain ⟨NN, hNN⟩ : ∃ NN, NF = NN + 1 := ⟨NF - 1, by omega⟩
      obtain ⟨g6, w1, w2, w3⟩ := FLT.mk (g := g5) (B := B') (AT := σA 1) (fT := fT') (k := 1) (p := nI pos5) z3.2.2.1 z3.1.2 (by decide)
      have rs : f10_readsStep g' B' = some (0, B', g6) := by
        unfold f10_readsStep
        rw [y1, Option.bind_some, hNN]
        show f10_readsStep_b4 (f10_readsStep_l4 NN) B' g5 = _
        unfold f10_readsStep_b4
        rw [here_c hX' y5, Option.bind_some, h41, if_neg (by decide), Option.bind_some, if_neg (by decide), if_pos (show f10_in 41 97 112 = 0 by decide), y5.2.2.2.2.1]
        exact wrong_b (P := Option.none) w1
      obtain ⟨k', rfl⟩ : ∃ j, k' = j + 1 := ⟨k' - 1, by omega⟩
      rw [rs, Option.bind_some, l50_0]
      refine flt A' f' (f7_fail fT' (σA 1) 1) B' g6 ?_ (BFR.trans (B' := B') (g' := g') ⟨fun _ _ _ _ _ => rfl, fun _ _ _ _ _ => rfl, fun j a b c d e f => (w3 j b).trans (y8 j a e f)⟩ z10)
      show FLT (f7_failAt fT' (σA 1) 1 (fT' 3)) g6
      rw [z3.2.1]; exact w2
    · rw [hw] at e9; exact absurd e9 (by decide)
