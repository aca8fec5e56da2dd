theorem PFR.trans {B B' B'' : Nat → Nat → Int32} {g g' g'' : Nat → Int32} (h : PFR B'' B' g'' g') (k : PFR B' B g' g) : PFR B'' B g'' g :=
  ⟨fun j a b => (h.1 j a b).trans (k.1 j a b), fun j a b c d => (h.2 j a b c d).trans (k.2 j a b c d)⟩
/-- TEMPTATION or GRAVITY -/
theorem num_c {n pos T p l most : Nat} {b : Nat → Nat} {s : Int32} {f2 fs f4 fT g : Nat → Int32} {A1 A2 B L : Nat → Nat → Int32} {X0 : (Nat → Nat → Int32) × (Nat → Nat → Int32)} (hX : TXT n b A1 B) (hC : CUR n pos fT g) (hp : p < 16) (hl : l < 20) (h3 : f4 3 = nI l) (h39 : g 39 = nI (l + 1)) (hS : SR T f2 fs (gfold f2 L X0 l) B g) (hs : (s = 61 ∧ most = 3) ∨ (s = 43 ∧ most = 2) ∨ (s = 45 ∧ most = 2)) :
    (∃ L' f4' fT' B' g', ((f7_number fT A1 (nI most)).bind fun q => f3_line_b127 A1 f2 A2 L f4 q.2 (nI p) s q.1) = some (L', f4', fT') ∧ f10_readsLine_b179 B g (nI p) s (nI most) = some (0, B', g') ∧ FLT fT' g' ∧ PFR B' B g' g) ∨
    (∃ L' f4' fT' B' g' pos', ((f7_number fT A1 (nI most)).bind fun q => f3_line_b127 A1 f2 A2 L f4 q.2 (nI p) s q.1) = some (L', f4', fT') ∧ f10_readsLine_b179 B g (nI p) s (nI most) = some (1, B', g') ∧ CUR n pos' fT' g' ∧ pos ≤ pos' ∧ f4' 3 = nI (l + 1) ∧ g' 39 = nI (l + 1) ∧ SR T f2 fs (gfold f2 L' X0 (l + 1)) B' g' ∧ PFR B' B g' g) := by
  unfold f10_readsLine_b179
  rcases amount_c hX hC (show 1 ≤ most by omega) (show most ≤ 3 by omega) with ⟨v, fT', g', c1, c2, c3, c4⟩ | ⟨v, d, fT', g', d1, hv, c1, c2, c3, c4, c5⟩
  · left
    rw [c1, Option.bind_some, c2, Option.bind_some, if_pos rfl]
    obtain ⟨L', f4', q⟩ := laid_f (A1 := A1) (A2 := A2) (L := L) (f2 := f2) (f4 := f4) (fT := fT') (p := nI p) (s := s) (v := v)
    exact ⟨L', f4', fT', B, g', q, rfl, c3, fun _ _ _ => rfl, fun j a b c _ => c4 j a b c⟩
  right
  rw [c1, Option.bind_some, c2, Option.bind_some, if_neg n10]
  dsimp only
  obtain ⟨L', f4', k1, k2, k3⟩ := laid_c (A1 := A1) (A2 := A2) (L := L) (f2 := f2) (f4 := f4) (fT := fT') (p := nI p) (s := s) (v := nI v) (X0 := X0) hl h3
  obtain ⟨⟨nx, hB⟩, hRS⟩ := hS
  have h39' : g' 39 = nI (l + 1) := by rw [c5 39 (by decide) (by decide) (by decide)]; exact h39
  obtain ⟨⟨t, t1, t2, t3⟩, -, -⟩ := hRS.1 p hp
  have j16 : (16 : Int32) + nI p = nI (16 + p) := addI 16 p
  have j0 : (0 : Int32) + nI p = nI p := by rw [show (0 : Int32) = nI 0 from rfl, addI, Nat.zero_add]
  have g6 : g' 6 = g 6 := c5 6 (by decide) (by decide) (by decide)
  -- what stands in the reference
  have ref : ∀ (B' : Nat → Nat → Int32), B' 3 = B 3 → RS T fs (gst f2 (nI p) s (nI v) (gfold f2 L X0 l)).1 (B' 0) → (gst f2 (nI p) s (nI v) (gfold f2 L X0 l)).2 = (gfold f2 L X0 l).2 → SR T f2 fs (gfold f2 L' X0 (l + 1)) B' g' := by
    intro B' h1 h2 h4
    rw [k3]
    refine ⟨⟨nx, ?_⟩, h2⟩
    rw [h4, h1, g6]; exact hB
  rcases hs with ⟨rfl, rfl⟩ | ⟨rfl, rfl⟩ | ⟨rfl, rfl⟩
  · rw [if_pos rfl, j16, if_neg (nI_in (show 16 + p < 76 by omega) (by decide)), ux_nI (by omega), c4]
    simp only [letv]
    refine ⟨L', f4', fT', updA B 0 (upd (B 0) (16 + p) (nI v)), g', pos + d, k1, rfl, c3, by omega, k2, h39', ref _ (updA_n (by decide)) ?_ ?_, fun j a c => updA_n a, fun j a b c _ => c5 j a b c⟩
    · have e : (gst f2 (nI p) 61 (nI v) (gfold f2 L X0 l)).1 = updA (gfold f2 L X0 l).1 1 (upd ((gfold f2 L X0 l).1 1) p (nI v)) := by
        unfold gst
        rw [if_neg (by decide), if_neg (by decide), if_neg (by decide), if_pos rfl]
        show updA _ 1 (f9_put 16 _ (nI p) (nI v)) = _
        rw [put_nI hp (by decide)]
      rw [e, updA_s]
      exact hRS.grav hp (by omega)
    · unfold gst
      rw [if_neg (by decide), if_neg (by decide), if_neg (by decide), if_pos rfl]
  · rw [if_neg (by decide), j0, if_neg (nI_in (show p < 76 by omega) (by decide)), if_pos rfl, c4, gx_nI (by omega), t3]
    unfold f10_readsLine_b245
    rw [if_neg (nI_in (show p < 76 by omega) (by decide)), ux_nI (by omega), cl10]
    simp only [letv]
    obtain ⟨w, w1, w2⟩ := clamp_rng (nI t + nI v)
    rw [w2]
    refine ⟨L', f4', fT', updA B 0 (upd (B 0) p (nI w)), g', pos + d, k1, rfl, c3, by omega, k2, h39', ref _ (updA_n (by decide)) ?_ ?_, fun j a c => updA_n a, fun j a b c _ => c5 j a b c⟩
    · have e : (gst f2 (nI p) 43 (nI v) (gfold f2 L X0 l)).1 = updA (gfold f2 L X0 l).1 0 (upd ((gfold f2 L X0 l).1 0) p (nI w)) := by
        unfold gst
        rw [if_neg (by decide), if_pos rfl]
        show updA _ 0 (f9_put 16 _ (nI p) (f9_clamp (f9_at 16 _ (nI p) + nI v) 0 99)) = _
        rw [put_nI hp (by decide), at_nI hp (by decide), t2, w2]
      rw [e, updA_s]
      exact hRS.tempt hp w1
    · unfold gst
      rw [if_neg (by decide), if_pos rfl]
  · rw [if_neg (by decide), j0, if_neg (nI_in (show p < 76 by omega) (by decide)), if_neg (by decide), c4, gx_nI (by omega), t3]
    unfold f10_readsLine_b245
    rw [if_neg (nI_in (show p < 76 by omega) (by decide)), ux_nI (by omega), cl10, ← Int32.sub_eq_add_neg]
    simp only [letv]
    obtain ⟨w, w1, w2⟩ := clamp_rng (nI t - nI v)
    rw [w2]
    refine ⟨L', f4', fT', updA B 0 (upd (B 0) p (nI w)), g', pos + d, k1, rfl, c3, by omega, k2, h39', ref _ (updA_n (by decide)) ?_ ?_, fun j a c => updA_n a, fun j a b c _ => c5 j a b c⟩
    · have e : (gst f2 (nI p) 45 (nI v) (gfold f2 L X0 l)).1 = updA (gfold f2 L X0 l).1 0 (upd ((gfold f2 L X0 l).1 0) p (nI w)) := by
        unfold gst
        rw [if_neg (by decide), if_neg (by decide), if_pos rfl]
        show updA _ 0 (f9_put 16 _ (nI p) (f9_clamp (f9_at 16 _ (nI p) - nI v) 0 99)) = _
        rw [put_nI hp (by decide), at_nI hp (by decide), t2, w2]
      rw [e, updA_s]
      exact hRS.tempt hp w1
    · unfold gst
      rw [if_neg (by decide), if_neg (by decide), if_pos rfl]
theorem line_c {n pos T l : Nat} {b : Nat → Nat} {f2 fs f4 fT g : Nat → Int32} {A1 A2 B L : Nat → Nat → Int32} {X0 : (Nat → Nat → Int32) × (Nat → Nat → Int32)} (hX : TXT n b A1 B) (hC : CUR n pos fT g) (hT : T < 65536) (e0 : f2 0 = nI T) (e6 : g 6 = nI T) (hl : l ≤ 20) (h3 : f4 3 = nI l) (h39 : g 39 = nI l) (hS : SR T f2 fs (gfold f2 L X0 l) B g) : LOUT n pos l T f2 fs X0 B g (f3_line f4 L fT A1 f2 A2) (f10_readsLine g B) := by
  unfold LOUT f3_line f10_readsLine
  rw [tlook_c hX hC]
  have flt : ∀ (k v : Int32) (g0 : Nat → Int32), k ≠ 0 → g0 9 = g 9 → (∀ j, j ≠ 39 → g0 j = g j) → (∃ L' f4' fT' B' g', f3_line_b52 A1 f2 A2 L f4 (f7_fail fT A1 k) v = some (L', f4', fT') ∧ ((f10_wrongAt g0 B k (g0 9)).bind fun q => if ¬ (q.1 = 0 ∨ q.1 = 1) then none else some (q.1, B, q.2)) = some (0, B', g') ∧ FLT fT' g' ∧ PFR B' B g' g) := by
    intro k v g0 hk h9 hfr
    obtain ⟨g', w1, w2, w3⟩ := FLT.mk (g := g0) (B := B) (AT := A1) (k := k) (p := g0 9) hC.2.2.1 hC.1.2 hk
    have hF : FLT (f7_fail fT A1 k) g' := by
      show FLT (f7_failAt fT A1 k (fT 3)) g'
      rw [hC.2.1, ← hC.2.2.2.2.1, ← h9]; exact w2
    refine ⟨L, f4, f7_fail fT A1 k, B, g', ?_, wrong_b (P := none) w1, hF, fun _ _ _ => rfl, fun j a b c d => (w3 j b).trans (hfr j d)⟩
    unfold f3_line_b52
    rw [fine_n hF.1, if_pos rfl]
  rcases letter_c hX.2.1 pos with ⟨h1, h2⟩ | ⟨p, hp, h1, h2, h4, h5⟩
  · left
    rw [isLetter_v (here_c hX hC) h2 (Or.inl rfl), Option.bind_some, if_pos rfl, if_pos h1]
    exact flt 1 _ g (by decide) rfl (fun _ _ => rfl)
  have hlt := chr_lt h1 (by omega)
  rw [isLetter_v (here_c hX hC) h5 (Or.inr rfl), Option.bind_some, if_neg n10, h2, if_neg (show ¬ nI p = -1 by rw [show (-1 : Int32) = -nI 1 from rfl, eq_neg (by omega) (by omega) (by omega)]; exact not_false), h3, h39]
  by_cases h20 : ¬ l < 20
  · left
    have : l = 20 := by omega
    subst this
    rw [if_neg (show ¬ nI 20 < 20 by decide), if_pos (show nI 20 = (20 : Int32) from rfl)]
    exact flt 4 _ g (by decide) rfl (fun _ _ => rfl)
  replace h20 : l < 20 := Classical.not_not.mp h20
  rw [if_pos (show nI l < 20 by rw [show (20 : Int32) = nI 20 from rfl, ltI (by omega) (by omega)]; exact h20), if_neg (show ¬ nI l = 20 by rw [show (20 : Int32) = nI 20 from rfl, eqI (by omega) (by omega)]; omega)]
  simp only [letv]
  rw [nI_s]
  have hC1 : CUR n pos fT (upd g 39 (nI (l + 1))) := hC.congr (upd_n (by decide)) (upd_n (by decide))
  have e6' : upd g 39 (nI (l + 1)) 6 = nI T := by rw [upd_n (by decide)]; exact e6
  rw [here_c hX hC1, Option.bind_some, h4, told9 hT e0 hp, told10 hT e6' hp]
  by_cases hTp : ¬ T.testBit p = true
  · left
    rw [if_neg hTp, if_pos (show nI 0 = (0 : Int32) from rfl), if_pos (show nI 0 = (0 : Int32) from rfl)]
    exact flt 7 _ (upd g 39 (nI (l + 1))) (by decide) (upd_n (by decide)) (fun j hj => upd_n hj)
  replace hTp : T.testBit p = true := Classical.not_not.mp hTp
  rw [if_pos hTp, if_neg (show ¬ nI 1 = (0 : Int32) by decide), if_neg (show ¬ nI 1 = (0 : Int32) by decide)]
  have hC2 := hC1.step (AT := A1) hlt
  generalize hg2 : upd (upd g 39 (nI (l + 1))) 9 (upd g 39 (nI (l + 1)) 9 + 1) = g2 at hC2
  have fr2 : ∀ j, j ≠ 9 → j ≠ 39 → g2 j = g j := fun j a b => by rw [← hg2, upd_n a, upd_n b]
  have h392 : g2 39 = nI (l + 1) := by rw [← hg2, upd_n (by decide), upd_s]
  rw [here_c hX hC2, Option.bind_some]
  unfold f3_line_b52
  rw [fine_c hC.2.2.1, if_neg n10]
  simp only [letv]
  rw [tlook_c hX hC2]
  have hS2 : SR T f2 fs (gfold f2 L X0 l) B g2 := by
    obtain ⟨⟨nx, hB⟩, hRS⟩ := hS
    exact ⟨⟨nx, by rw [fr2 6 (by decide) (by decide)]; exact hB⟩, hRS⟩
  -- behind the sign
  have after : ∀ c : Nat, c < 256 → chr n b (pos + 1) = nI c → CUR n (pos + 1 + 1) (f7_step (f7_step fT A1) A1) (upd g2 9 (g2 9 + 1)) := fun c hc h => hC2.step (chr_lt h (by omega))
  have pf3 : ∀ B' g', PFR B' B g' (upd g2 9 (g2 9 + 1)) → PFR B' B g' g := fun B' g' h => h.trans ⟨fun _ _ _ => rfl, fun j a b c d => by rw [upd_n a, fr2 j a d]⟩
  have h393 : upd g2 9 (g2 9 + 1) 39 = nI (l + 1) := by rw [upd_n (by decide)]; exact h392
  have hS3 : SR T f2 fs (gfold f2 L X0 l) B (upd g2 9 (g2 9 + 1)) := by
    obtain ⟨⟨nx, hB⟩, hRS⟩ := hS2
    exact ⟨⟨nx, by rw [upd_n (by decide)]; exact hB⟩, hRS⟩
  have e63 : upd g2 9 (g2 9 + 1) 6 = nI T := by rw [upd_n (by decide), fr2 6 (by decide) (by decide)]; exact e6
  generalize hch : chr n b (pos + 1) = ch at after
  by_cases s43 : ch = 43
  · subst s43
    have hC3 := after 43 (by decide) rfl
    rw [if_neg (show ¬ f3_isSign 43 = 0 by decide), if_neg (by decide), if_neg (by decide), if_neg (by decide), if_pos rfl]
    unfold f10_readsLine_b128
    simp only [letv]
    rw [if_neg (by decide), if_neg (by decide), if_neg (by decide)]
    rcases num_c (A2 := A2) (most := 2) (s := 43) hX hC3 hp h20 h3 h393 hS3 (Or.inr (Or.inl ⟨rfl, rfl⟩)) with ⟨L', f4', fT', B', g', k1, k2, k3, k4⟩ | ⟨L', f4', fT', B', g', pos', k1, k2, k3, k4, k5, k6, k7, k8⟩
    · exact Or.inl ⟨L', f4', fT', B', g', k1, k2, k3, pf3 _ _ k4⟩
    · exact Or.inr ⟨L', f4', fT', B', g', pos', k1, k2, k3, by omega, h20, k5, k6, k7, pf3 _ _ k8⟩
  by_cases s45 : ch = 45
  · subst s45
    have hC3 := after 45 (by decide) rfl
    rw [if_neg (show ¬ f3_isSign 45 = 0 by decide), if_neg (by decide), if_neg (by decide), if_neg (by decide), if_neg (by decide), if_pos rfl]
    unfold f10_readsLine_b128
    simp only [letv]
    rw [if_neg (by decide), if_neg (by decide), if_neg (by decide)]
    rcases num_c (A2 := A2) (most := 2) (s := 45) hX hC3 hp h20 h3 h393 hS3 (Or.inr (Or.inr ⟨rfl, rfl⟩)) with ⟨L', f4', fT', B', g', k1, k2, k3, k4⟩ | ⟨L', f4', fT', B', g', pos', k1, k2, k3, k4, k5, k6, k7, k8⟩
    · exact Or.inl ⟨L', f4', fT', B', g', k1, k2, k3, pf3 _ _ k4⟩
    · exact Or.inr ⟨L', f4', fT', B', g', pos', k1, k2, k3, by omega, h20, k5, k6, k7, pf3 _ _ k8⟩
  by_cases s61 : ch = 61
  · subst s61
    have hC3 := after 61 (by decide) rfl
    rw [if_neg (show ¬ f3_isSign 61 = 0 by decide), if_neg (by decide), if_neg (by decide), if_pos rfl, if_neg (by decide), if_neg (by decide), if_pos rfl]
    unfold f10_readsLine_b128
    simp only [letv]
    rw [if_neg (by decide), if_neg (by decide), if_pos trivial]
    rcases num_c (A2 := A2) (most := 3) (s := 61) hX hC3 hp h20 h3 h393 hS3 (Or.inl ⟨rfl, rfl⟩) with ⟨L', f4', fT', B', g', k1, k2, k3, k4⟩ | ⟨L', f4', fT', B', g', pos', k1, k2, k3, k4, k5, k6, k7, k8⟩
    · exact Or.inl ⟨L', f4', fT', B', g', k1, k2, k3, pf3 _ _ k4⟩
    · exact Or.inr ⟨L', f4', fT', B', g', pos', k1, k2, k3, by omega, h20, k5, k6, k7, pf3 _ _ k8⟩
  by_cases s38 : ch = 38
  · subst s38
    have hC3 := after 38 (by decide) rfl
    rw [if_neg (show ¬ f3_isSign 38 = 0 by decide), if_pos rfl, if_neg (by decide), if_neg (by decide), if_neg (by decide), if_pos rfl]
    unfold f10_readsLine_b128
    simp only [letv]
    rw [if_pos trivial]
    unfold f10_readsLine_b150
    rw [if_pos rfl]
    rcases other_c (A2 := A2) (s := 38) (near := 1) hX hC3 hT e0 e63 hp hTp h20 h3 h393 hS3 (Or.inl ⟨rfl, rfl⟩) with ⟨L', f4', fT', B', g', k1, k2, k3, k4⟩ | ⟨L', f4', fT', B', g', k1, k2, k3, k5, k6, k7, k8⟩
    · exact Or.inl ⟨L', f4', fT', B', g', k1, by rw [k2, Option.bind_some, if_neg (fun q => q (Or.inl rfl))], k3, pf3 _ _ k4⟩
    · exact Or.inr ⟨L', f4', fT', B', g', pos + 1 + 1 + 1, k1, by rw [k2, Option.bind_some, if_neg (fun q => q (Or.inr rfl))], k3, by omega, h20, k5, k6, k7, pf3 _ _ k8⟩
  by_cases s47 : ch = 47
  · subst s47
    have hC3 := after 47 (by decide) rfl
    rw [if_neg (show ¬ f3_isSign 47 = 0 by decide), if_neg (by decide), if_pos rfl, if_neg (by decide), if_neg (by decide), if_neg (by decide), if_neg (by decide), if_pos rfl]
    unfold f10_readsLine_b128
    simp only [letv]
    rw [if_neg (by decide), if_pos trivial]
    unfold f10_readsLine_b150
    rw [if_neg (by decide)]
    rcases other_c (A2 := A2) (s := 47) (near := 0) hX hC3 hT e0 e63 hp hTp h20 h3 h393 hS3 (Or.inr ⟨rfl, rfl⟩) with ⟨L', f4', fT', B', g', k1, k2, k3, k4⟩ | ⟨L', f4', fT', B', g', k1, k2, k3, k5, k6, k7, k8⟩
    · exact Or.inl ⟨L', f4', fT', B', g', k1, by rw [k2, Option.bind_some, if_neg (fun q => q (Or.inl rfl))], k3, pf3 _ _ k4⟩
    · exact Or.inr ⟨L', f4', fT', B', g', pos + 1 + 1 + 1, k1, by rw [k2, Option.bind_some, if_neg (fun q => q (Or.inr rfl))], k3, by omega, h20, k5, k6, k7, pf3 _ _ k8⟩
  · left
    have ns : f3_isSign ch = 0 := by
      unfold f3_isSign
      rw [if_neg s43, if_neg s45, if_neg s61, if_neg s38, if_neg s47]
    rw [if_pos ns, if_neg s43, if_neg s45, if_neg s61, if_neg s38, if_neg s47]
    obtain ⟨g', w1, w2, w3⟩ := FLT.mk (g := g2) (B := B) (AT := A1) (k := 1) (p := g2 9) hC2.2.2.1 hC2.1.2 (by decide)
    refine ⟨L, f4, f7_fail (f7_step fT A1) A1 1, B, g', rfl, wrong_b (P := none) w1, ?_, fun _ _ _ => rfl, fun j a b c d => (w3 j b).trans (fr2 j a d)⟩
    show FLT (f7_failAt (f7_step fT A1) A1 1 (f7_step fT A1 3)) g'
    rw [hC2.2.1, ← hC2.2.2.2.2.1]; exact w2

theorem answer_flt {fT g : Nat → Int32} {AT : Nat → Nat → Int32} {x : Int32} (h : FLT fT g) : f7_answer fT AT x = g 11 := by
  unfold f7_answer
  rw [if_neg h.1, h.2.1]
theorem answer_ok {fT : Nat → Int32} {AT : Nat → Nat → Int32} {x : Int32} (h : fT 4 = 0) : f7_answer fT AT x = x := by
  unfold f7_answer
  rw [if_pos h]
theorem begins_c {σf1 μf : Nat → Int32} {A1 A0 : Nat → Nat → Int32} {n : Nat} : CUR n 0 (f7_open σf1 A1 (nI n)) (f10_beginsText μf A0 (nI n)) ∧ ∀ j, j ≠ 9 → j ≠ 10 → j ≠ 14 → j ≠ 16 → f10_beginsText μf A0 (nI n) j = μf j := by
  refine ⟨⟨⟨open_2, open_1⟩, open_3, open_4, rfl, rfl, Nat.zero_le _⟩, fun j a b c d => ?_⟩
  show upd (upd (upd (upd μf 9 0) 10 (nI n)) 14 0) 16 0 j = μf j
  rw [upd_n d, upd_n c, upd_n b, upd_n a]
theorem goesOn_c {n pos : Nat} {b : Nat → Nat} {fT g : Nat → Int32} {A1 B : Nat → Nat → Int32} (hX : TXT n b A1 B) (hC : CUR n pos fT g) : (¬ pos < n ∧ f7_goesOn fT A1 = some (0, fT)) ∨ (pos < n ∧ ∃ fT' g', f7_goesOn fT A1 = some (0, fT') ∧ f10_takes g B 59 = some (0, g') ∧ FLT fT' g' ∧ ∀ j, j ≠ 11 → g' j = g j) ∨ (pos < n ∧ ∃ fT' g', f7_goesOn fT A1 = some (1, fT') ∧ f10_takes g B 59 = some (1, g') ∧ CUR n (pos + 1) fT' g' ∧ ∀ j, j ≠ 9 → g' j = g j) := by
  unfold f7_goesOn f10_takes
  rw [take_fine hC.2.2.1, tlook_c hX hC, here_c hX hC, Option.bind_some]
  have ce := chr_end (n := n) (pos := pos) hX.2.1
  by_cases h : ¬ pos < n
  · left
    rw [if_pos (ce.mpr h)]
    exact ⟨h, rfl⟩
  replace h : pos < n := Classical.not_not.mp h
  rw [if_neg (fun e => (ce.mp e) h)]
  by_cases hc : chr n b pos = 59
  · right; right
    rw [if_pos hc, if_pos hc]
    refine ⟨h, f7_step fT A1, upd g 9 (g 9 + 1), ?_, rfl, hC.step h, fun j hj => upd_n hj⟩
    simp only [letv, Option.bind_some]
    rw [if_neg n10]
  · right; left
    rw [if_neg hc, if_neg hc]
    obtain ⟨g', w1, w2, w3⟩ := FLT.mk (g := g) (B := B) (AT := A1) (k := 1) (p := g 9) hC.2.2.1 hC.1.2 (by decide)
    refine ⟨h, f7_fail fT A1 1, g', ?_, ?_, ?_, w3⟩
    · simp only [letv, Option.bind_some]
      rw [if_pos trivial]
    · rw [w1, Option.bind_some, if_neg (fun q => q (Or.inl rfl))]
    · show FLT (f7_failAt fT A1 1 (fT 3)) g'
      rw [hC.2.1, ← hC.2.2.2.2.1]; exact w2
