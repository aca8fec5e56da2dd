theorem copy123 {x : Int32} {r : Nat} {B : Nat → Nat → Int32} {g : Nat → Int32} (hr : r ≤ 16) (h16 : g 16 = nI r) : ∃ B', f10_law_l123 x NF B g 0 = some (nI r, B', g) ∧ (∀ i, i < r → B' 25 i = B 20 i ∧ B' 26 i = B 21 i ∧ B' 27 i = B 22 i ∧ B' 28 i = B 23 i) ∧ ∀ j, j < 25 ∨ 28 < j → B' j = B j := by
  refine loop_one (fun k (s : (Nat → Nat → Int32) × Int32) => f10_law_l123 x k s.1 g s.2) r (fun u s => ∃ B', s = (B', nI u) ∧ (∀ i, i < u → B' 25 i = B 20 i ∧ B' 26 i = B 21 i ∧ B' 27 i = B 22 i ∧ B' 28 i = B 23 i) ∧ ∀ j, j < 25 ∨ 28 < j → B' j = B j) (fun P => ∃ B', P = some (nI r, B', g) ∧ (∀ i, i < r → B' 25 i = B 20 i ∧ B' 26 i = B 21 i ∧ B' 27 i = B 22 i ∧ B' 28 i = B 23 i) ∧ ∀ j, j < 25 ∨ 28 < j → B' j = B j) (by omega) ?_ (B, 0) ⟨B, rfl, fun i h => absurd h (by omega), fun _ _ => rfl⟩
  rintro k u s hu ⟨B', rfl, h1, h2⟩
  have ea : ∀ k B u, f10_law_l123 x (k + 1) B g u = f10_law_b123 x (f10_law_l123 x k) B g u := fun _ _ _ => rfl
  simp only [ea]
  unfold f10_law_b123
  rw [h16]
  by_cases h : r ≤ u
  · left
    rw [if_pos (show nI r ≤ nI u by rw [leI (by omega) (by omega)]; exact h)]
    have : u = r := by omega
    subst this
    exact ⟨B', rfl, h1, h2⟩
  right
  have iu : ¬ (nI u < 0 ∨ 16 ≤ (nI u).toNatClampNeg) := nI_in (show u < 16 by omega) (by decide)
  rw [if_neg (show ¬ nI r ≤ nI u by rw [leI (by omega) (by omega)]; exact h)]
  simp only [letv, if_neg iu]
  simp only [gx_nI (show u < 2147483648 by omega), ux_nI (show u < 2147483648 by omega), nI_s]
  refine ⟨by omega, (_, nI (u + 1)), rfl, _, rfl, fun i hi => ?_, fun j hj => ?_⟩
  · by_cases e : i = u
    · subst e
      refine ⟨?_, ?_, ?_, ?_⟩
      · rw [updA_n (by decide), updA_n (by decide), updA_n (by decide), updA_s, upd_s, h2 20 (by omega)]
      · rw [updA_n (by decide), updA_n (by decide), updA_s, upd_s, updA_n (by decide), h2 21 (by omega)]
      · rw [updA_n (by decide), updA_s, upd_s, updA_n (by decide), updA_n (by decide), h2 22 (by omega)]
      · rw [updA_s, upd_s, updA_n (by decide), updA_n (by decide), updA_n (by decide), h2 23 (by omega)]
    · obtain ⟨a1, a2, a3, a4⟩ := h1 i (by omega)
      refine ⟨?_, ?_, ?_, ?_⟩
      · rw [updA_n (by decide), updA_n (by decide), updA_n (by decide), updA_s, upd_n e]; exact a1
      · rw [updA_n (by decide), updA_n (by decide), updA_s, upd_n e, updA_n (by decide)]; exact a2
      · rw [updA_n (by decide), updA_s, upd_n e, updA_n (by decide), updA_n (by decide)]; exact a3
      · rw [updA_s, upd_n e, updA_n (by decide), updA_n (by decide), updA_n (by decide)]; exact a4
  · rw [updA_n (by omega), updA_n (by omega), updA_n (by omega), updA_n (by omega)]; exact h2 j hj
