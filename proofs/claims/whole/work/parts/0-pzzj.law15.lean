theorem copy95 {x : Int32} {m : Nat} {B : Nat → Nat → Int32} {g : Nat → Int32} (hm : m ≤ 240) (h14 : g 14 = nI m) : ∃ B', f10_law_l95 x NF B g 0 = f10_law_l123 x NF B' g 0 ∧ (∀ i, i < m → B' 24 i = B 18 i) ∧ ∀ j, j ≠ 24 → B' j = B j := by
  refine loop_one (fun k (s : (Nat → Nat → Int32) × Int32) => f10_law_l95 x k s.1 g s.2) m (fun u s => ∃ B', s = (B', nI u) ∧ (∀ i, i < u → B' 24 i = B 18 i) ∧ ∀ j, j ≠ 24 → B' j = B j) (fun P => ∃ B', P = f10_law_l123 x NF B' g 0 ∧ (∀ i, i < m → B' 24 i = B 18 i) ∧ ∀ j, j ≠ 24 → B' j = B j) (by omega) ?_ (B, 0) ⟨B, rfl, fun i h => absurd h (by omega), fun _ _ => rfl⟩
  rintro k u s hu ⟨B', rfl, h1, h2⟩
  have ea : ∀ k B u, f10_law_l95 x (k + 1) B g u = f10_law_b95 x (f10_law_l95 x k) B g u := fun _ _ _ => rfl
  simp only [ea]
  unfold f10_law_b95
  rw [h14]
  by_cases h : m ≤ u
  · left
    rw [if_pos (show nI m ≤ nI u by rw [leI (by omega) (by omega)]; exact h)]
    have : u = m := by omega
    subst this
    exact ⟨B', rfl, h1, h2⟩
  right
  have iu : ¬ (nI u < 0 ∨ 260 ≤ (nI u).toNatClampNeg) := nI_in (show u < 260 by omega) (by decide)
  rw [if_neg (show ¬ nI m ≤ nI u by rw [leI (by omega) (by omega)]; exact h), if_neg iu, if_neg iu, gx_nI (by omega), ux_nI (by omega), nI_s]
  simp only [letv]
  refine ⟨by omega, (updA B' 24 (upd (B' 24) u (B' 18 u)), nI (u + 1)), rfl, _, rfl, fun i hi => ?_, fun j hj => (updA_n hj).trans (h2 j hj)⟩
  show updA B' 24 (upd (B' 24) u (B' 18 u)) 24 i = _
  rw [updA_s]
  by_cases e : i = u
  · subst e; rw [upd_s, h2 18 (by decide)]
  · rw [upd_n e]; exact h1 i (by omega)
