theorem copy123 {x : Int32} {r : Nat} {B : Nat → Nat → Int32} {g : Nat → Int32} (hr : r ≤ 16) (h16 : g 16 = nI r) : ∃ B', f10_law_l123 x NF B g 0 = some (nI r, B', g) ∧ (∀ i, i < r → B' 25 i = B 20 i ∧ B' 26 i = B 21 i ∧ B' 27 i = B 22 i ∧ B' 28 i = B 23 i) ∧ ∀ j, j < 25 ∨ 28 < j → B' j = B j := by
  refine loop_one (fun k (s : (Nat → Nat → Int32) × Int32) => f10_law_l123 x k s.1 g s.2) r (fun u s => ∃ B', s = (B', nI u) ∧ (∀ i, i < u → B' 25 i = B 20 i ∧ B' 26 i = B 21 i ∧ B' 27 i = B 22 i ∧ B' 28 i = B 23 i) ∧ ∀ j, j < 25 ∨ 28 < j → B' j = B j) (fun P => ∃ B', P = some (nI r, B', g) ∧ (∀ i, i < r → B' 25 i = B 20 i ∧ B' 26 i = B 21 i ∧ B' 27 i = B 22 i ∧ B' 28 i = B 23 i) ∧ ∀ j, j < 25 ∨ 28 < j → B' j = B j) (by omega) ?_ (B, 0) ⟨B, rfl, fun i h => absurd h (by omega), fun _ _ => rfl⟩
  rintro k u s hu ⟨B', rfl, h1, h2⟩
  have ea : ∀ k B u, f10_law_l123 x (k + 1) B g u = f10_law_b123 x (f10_law_l123 x k) B g u := fun _ _ _ => rfl
  simp only [ea]
  unfold f10_law_b123
  rw [h16]
  by_cases h : r ≤ u
  · left
    rw [if_pos (show nI r ≤ nI u by rw [leI (by omega) (by omega)]; exact h)]
    have : u = r := by omega
    subst this
    exact ⟨B', rfl, h1, h2⟩
  right
  have iu : ¬ (nI u < 0 ∨ 16 ≤ (nI u).toNatClampNeg) := nI_in (show u < 16 by omega) (by decide)
  rw [if_neg (show ¬ nI r ≤ nI u by rw [leI (by omega) (by omega)]; exact h), if_neg iu, if_neg iu, gx_nI (by omega), ux_nI (by omega), nI_s]
  simp only [letv, if_neg iu]
  rw [gx_nI (by omega), ux_nI (by omega), gx_nI (by omega), ux_nI (by omega), gx_nI (by omega), ux_nI (by omega)]
  generalize hB1 : updA B' 25 (upd (B' 25) u (B' 20 u)) = B1
  generalize hB2 : updA B1 26 (upd (B1 26) u (B1 21 u)) = B2
  generalize hB3 : updA B2 27 (upd (B2 27) u (B2 22 u)) = B3
  generalize hB4 : updA B3 28 (upd (B3 28) u (B3 23 u)) = B4
  refine ⟨by omega, (B4, nI (u + 1)), rfl, B4, rfl, fun i hi => ?_, fun j hj => ?_⟩
  · have b25 : B4 25 = upd (B' 25) u (B 20 u) := by
      rw [← hB4, updA_n (by decide), ← hB3, updA_n (by decide), ← hB2, updA_n (by decide), ← hB1, updA_s, h2 20 (by omega)]
    have b26 : B4 26 = upd (B' 26) u (B 21 u) := by
      rw [← hB4, updA_n (by decide), ← hB3, updA_n (by decide), ← hB2, updA_s, ← hB1, updA_n (by decide), updA_n (by decide), h2 21 (by omega)]
    have b27 : B4 27 = upd (B' 27) u (B 22 u) := by
      rw [← hB4, updA_n (by decide), ← hB3, updA_s, ← hB2, updA_n (by decide), updA_n (by decide), ← hB1, updA_n (by decide), updA_n (by decide), h2 22 (by omega)]
    have b28 : B4 28 = upd (B' 28) u (B 23 u) := by
      rw [← hB4, updA_s, ← hB3, updA_n (by decide), updA_n (by decide), ← hB2, updA_n (by decide), updA_n (by decide), ← hB1, updA_n (by decide), updA_n (by decide), h2 23 (by omega)]
    rw [b25, b26, b27, b28]
    by_cases e : i = u
    · subst e; rw [upd_s, upd_s, upd_s, upd_s]; exact ⟨rfl, rfl, rfl, rfl⟩
    · rw [upd_n e, upd_n e, upd_n e, upd_n e]; exact h1 i (by omega)
  · rw [← hB4, updA_n (by omega), ← hB3, updA_n (by omega), ← hB2, updA_n (by omega), ← hB1, updA_n (by omega)]; exact h2 j hj
