/-! what begins every call on the tape: n bytes or more are there, or not -/
theorem ok_likely : OK_likely INV := by
  rintro σf σA fW AW μf μA x1 x2 hI
  have hI0 := hI
  obtain ⟨T, nx, -, -, hT, -, -, -, -⟩ := hI
  obtain ⟨sz, b, t1, t2, t3, t4, t5⟩ := hT.bytes
  unfold f9_likely f10_likely
  rw [in_eq]
  rcases within_c x1 (A := 1) (B := 16) (a := 1) (b := 16) rfl rfl (by decide) (by decide) with ⟨h, _⟩ | ⟨h, n, hn0, hn, rfl⟩
  · exact ⟨(-1, σf 1), (-1, μf), by rw [if_pos h], by rw [if_pos h], rfl, by rw [cset_id]; exact hI0⟩
  rcases within_c x2 (A := 0) (B := 2) (a := 0) (b := 2) rfl rfl (by decide) (by decide) with ⟨h2, _⟩ | ⟨h2, w, _, hw, rfl⟩
  · exact ⟨(-1, σf 1), (-1, μf), by rw [h, if_neg n10, if_pos h2], by rw [h, if_neg n10, if_pos h2], rfl, by rw [cset_id]; exact hI0⟩
  rw [h, if_neg n10, if_neg n10, h2, if_neg n10, if_neg n10, show (2 : Int32) * nI n = nI (2 * n) from mulI 2 n, holds_c t2 t1 (by omega), t3]
  by_cases hm : 2 * n ≤ sz
  · have hb1 : ∀ i, i < 2 * n → σA 1 0 i = nI (b i) := fun i hi => (t5 i (by omega)).1
    have hb2 : ∀ i, i < 2 * n → μA 7 i &&& 255 = nI (b i) := fun i hi => (t5 i (by omega)).2
    have hn' : 2 * n ≤ 260 := by omega
    have beats : ∀ (f : Nat → Int32) i j, i < n → j < n → f10_beats f μA (nI j) (nI i) = some (if b (2 * i) ≤ b (2 * j) ∧ b (2 * i + 1) ≤ b (2 * j + 1) ∧ b (2 * i) + b (2 * i + 1) < b (2 * j) + b (2 * j + 1) then nI 1 else nI 0) := by
      intro f i j hi hj
      unfold f10_beats
      simp (disch := omega) only [litI, letv, eqI, leI, ltI, addI, mulI, subI, clI, at_nI, put_nI, nI_s, orI, shl1I, ifb0, ifb1, Option.bind_some, gx, ux, Nat.add_zero, Nat.zero_add, Nat.not_lt_zero, false_or, or_false, Nat.mul_zero, Nat.zero_mul, octet_c hn' hb2]
      have g1 := t4 (2 * i); have g2 := t4 (2 * j); have g3 := t4 (2 * i + 1); have g4 := t4 (2 * j + 1)
      by_cases u : b (2 * i) ≤ b (2 * j)
      · by_cases v : b (2 * i + 1) ≤ b (2 * j + 1)
        · simp (disch := omega) only [litI, letv, eqI, leI, ltI, addI, mulI, subI, clI, at_nI, put_nI, nI_s, orI, shl1I, ifb0, ifb1, Option.bind_some, gx, ux, Nat.add_zero, Nat.zero_add, Nat.not_lt_zero, false_or, or_false, Nat.mul_zero, Nat.zero_mul, if_false, leI]
          by_cases w : b (2 * i) + b (2 * i + 1) < b (2 * j) + b (2 * j + 1)
          · rw [if_neg (by omega), if_pos ⟨u, v, w⟩]
          · rw [if_pos (by omega), if_neg (fun h => w h.2.2)]
        · rw [if_neg (show ¬ nI (b (2 * j)) - nI (b (2 * i)) < nI 0 by rw [subI u, ltI (by omega) (by omega)]; omega), if_pos (show nI (b (2 * j + 1)) - nI (b (2 * i + 1)) < nI 0 from pk_sneg (by omega) (by omega)), if_neg (fun h => v h.2.1)]
      · rw [if_pos (show nI (b (2 * j)) - nI (b (2 * i)) < nI 0 from pk_sneg (by omega) (by omega)), if_neg (fun h => u h.1)]
    have nine : ∀ (z : Nat → Int32), z 2 = nI (2 * n) → ∀ i, i < n → f9_isBeaten (σf 0) (σA 0) z (σA 1) (nI i) (nI n) = some (if ∃ j, j < n ∧ (b (2 * i) ≤ b (2 * j) ∧ b (2 * i + 1) ≤ b (2 * j + 1) ∧ b (2 * i) + b (2 * i + 1) < b (2 * j) + b (2 * j + 1)) then nI 1 else nI 0) := by
      intro z hz i hi
      unfold f9_isBeaten
      simp (disch := omega) only [litI, letv, eqI, leI, ltI, addI, mulI, subI, clI, at_nI, put_nI, nI_s, orI, shl1I, ifb0, ifb1, Option.bind_some, gx, ux, Nat.add_zero, Nat.zero_add, Nat.not_lt_zero, false_or, or_false, Nat.mul_zero, Nat.zero_mul, byteAt_c hz hn' hb1]
      refine loop_one (fun k (s : Int32) => f9_isBeaten_l28 (σf 0) (σA 0) z (σA 1) (nI i) (nI n) k (nI (b (2 * i))) (nI (b (2 * i + 1))) s) n (fun j s => s = nI j ∧ ¬ ∃ j', j' < j ∧ (b (2 * i) ≤ b (2 * j') ∧ b (2 * i + 1) ≤ b (2 * j' + 1) ∧ b (2 * i) + b (2 * i + 1) < b (2 * j') + b (2 * j' + 1))) (fun a => a = _) (by omega) ?_ (nI 0) ⟨rfl, fun ⟨j, hj, _⟩ => by omega⟩
      rintro k j s hj ⟨rfl, hno⟩
      have g1 := t4 (2 * i); have g2 := t4 (2 * j); have g3 := t4 (2 * i + 1); have g4 := t4 (2 * j + 1)
      simp (disch := omega) only [f9_isBeaten_l28, f9_isBeaten_b28, litI, letv, eqI, leI, ltI, addI, mulI, subI, clI, at_nI, put_nI, nI_s, orI, shl1I, ifb0, ifb1, Option.bind_some, gx, ux, Nat.add_zero, Nat.zero_add, Nat.not_lt_zero, false_or, or_false, Nat.mul_zero, Nat.zero_mul]
      by_cases hjn : n ≤ j
      · have : j = n := by omega
        subst this
        left
        rw [if_pos hjn, if_neg hno]
      simp (disch := omega) only [if_neg hjn, litI, letv, eqI, leI, ltI, addI, mulI, subI, clI, at_nI, put_nI, nI_s, orI, shl1I, ifb0, ifb1, Option.bind_some, gx, ux, Nat.add_zero, Nat.zero_add, Nat.not_lt_zero, false_or, or_false, Nat.mul_zero, Nat.zero_mul, byteAt_c hz hn' hb1]
      have stp : ¬ (b (2 * i) ≤ b (2 * j) ∧ b (2 * i + 1) ≤ b (2 * j + 1) ∧ b (2 * i) + b (2 * i + 1) < b (2 * j) + b (2 * j + 1)) → ¬ ∃ j', j' < j + 1 ∧ (b (2 * i) ≤ b (2 * j') ∧ b (2 * i + 1) ≤ b (2 * j' + 1) ∧ b (2 * i) + b (2 * i + 1) < b (2 * j') + b (2 * j' + 1)) := by
        rintro h ⟨j', h1, h2⟩
        by_cases e : j' = j
        · subst e; exact h h2
        · exact hno ⟨j', by omega, h2⟩
      by_cases u : b (2 * i) ≤ b (2 * j)
      · by_cases v : b (2 * i + 1) ≤ b (2 * j + 1)
        · simp (disch := omega) only [litI, letv, eqI, leI, ltI, addI, mulI, subI, clI, at_nI, put_nI, nI_s, orI, shl1I, ifb0, ifb1, Option.bind_some, gx, ux, Nat.add_zero, Nat.zero_add, Nat.not_lt_zero, false_or, or_false, Nat.mul_zero, Nat.zero_mul, if_false, leI]
          by_cases w : b (2 * i) + b (2 * i + 1) < b (2 * j) + b (2 * j + 1)
          · left
            rw [if_neg (by omega), if_pos ⟨j, by omega, u, v, w⟩]
          · right
            rw [if_pos (by omega)]
            exact ⟨by omega, _, rfl, rfl, stp (fun h => w h.2.2)⟩
        · right
          rw [if_neg (show ¬ nI (b (2 * j)) - nI (b (2 * i)) < nI 0 by rw [subI u, ltI (by omega) (by omega)]; omega), if_pos (show nI (b (2 * j + 1)) - nI (b (2 * i + 1)) < nI 0 from pk_sneg (by omega) (by omega))]
          exact ⟨by omega, _, rfl, rfl, stp (fun h => v h.2.1)⟩
      · right
        rw [if_pos (show nI (b (2 * j)) - nI (b (2 * i)) < nI 0 from pk_sneg (by omega) (by omega))]
        exact ⟨by omega, _, rfl, rfl, stp (fun h => u h.1)⟩
    simp (disch := omega) only [if_pos hm, litI, letv, eqI, leI, ltI, addI, mulI, subI, clI, at_nI, put_nI, nI_s, orI, shl1I, ifb0, ifb1, Option.bind_some, gx, ux, Nat.add_zero, Nat.zero_add, Nat.not_lt_zero, false_or, or_false, Nat.mul_zero, Nat.zero_mul, if_neg, if_true]
    obtain ⟨r, r', e1, e2, e3, e4, e5⟩ := loop_rel (fun k (s : Int32 × Int32 × Int32 × Int32) => f9_likely_l55 (σf 0) (σA 0) (σA 1) (nI n) (nI w) k (f7_open (σf 1) (σA 1) (nI (2 * n))) s.1 s.2.1 s.2.2.1 s.2.2.2) (fun k (s : Int32 × Int32 × Int32 × Int32) => f10_likely_l47 μA (nI n) (nI w) k (upd μf 8 (nI 0)) s.1 s.2.1 s.2.2.1 s.2.2.2) n
      (fun j s t => ∃ x y z, s = (x, y, z, nI j) ∧ t = (x, y, z, nI j)) (fun a b => ∃ r r', a = some r ∧ b = some r' ∧ r.1 = r'.1 ∧ r.2 = f7_open (σf 1) (σA 1) (nI (2 * n)) ∧ r'.2 = upd μf 8 (nI 0)) (by omega) (by
        rintro k m j s t hj ⟨x, y, z, rfl, rfl⟩
        simp (disch := omega) only [f9_likely_l55, f9_likely_b55, f10_likely_l47, f10_likely_b47, litI, letv, eqI, leI, ltI, addI, mulI, subI, clI, at_nI, put_nI, nI_s, orI, shl1I, ifb0, ifb1, Option.bind_some, gx, ux, Nat.add_zero, Nat.zero_add, Nat.not_lt_zero, false_or, or_false, Nat.mul_zero, Nat.zero_mul]
        by_cases hjn : n ≤ j
        · left
          simp (disch := omega) only [if_pos hjn]
          by_cases q : w = 0
          · simp (disch := omega) only [q, if_true]
            exact ⟨_, _, rfl, rfl, rfl, rfl, rfl⟩
          simp (disch := omega) only [q, if_false]
          by_cases q : w = 1
          · simp (disch := omega) only [q, if_true]
            exact ⟨_, _, rfl, rfl, rfl, rfl, rfl⟩
          · simp (disch := omega) only [q, if_false]
            exact ⟨_, _, rfl, rfl, rfl, rfl, rfl⟩
        right
        have inner : f10_likely_l59 μA (nI n) (nI w) (f10_likely_l47 μA (nI n) (nI w) m) NF (upd μf 8 (nI 0)) x y z (nI j) (nI 0) (nI 0) = f10_likely_b97 μA (nI n) (nI w) (f10_likely_l47 μA (nI n) (nI w) m) (upd μf 8 (nI 0)) (if ∃ j', j' < n ∧ (b (2 * j) ≤ b (2 * j') ∧ b (2 * j + 1) ≤ b (2 * j' + 1) ∧ b (2 * j) + b (2 * j + 1) < b (2 * j') + b (2 * j' + 1)) then x else x ||| nI (2 ^ j)) y z (nI j) := by
          refine loop_one (fun k (s : Int32 × Int32) => f10_likely_l59 μA (nI n) (nI w) (f10_likely_l47 μA (nI n) (nI w) m) k (upd μf 8 (nI 0)) x y z (nI j) s.1 s.2) n (fun i s => s = (if ∃ j', j' < i ∧ (b (2 * j) ≤ b (2 * j') ∧ b (2 * j + 1) ≤ b (2 * j' + 1) ∧ b (2 * j) + b (2 * j + 1) < b (2 * j') + b (2 * j' + 1)) then nI 1 else nI 0, nI i)) (fun a => a = _) (by omega) ?_ (nI 0, nI 0) (by rw [if_neg (fun ⟨j, hj, _⟩ => by omega)])
          rintro k i s hi rfl
          simp (disch := omega) only [f10_likely_l59, f10_likely_b59, litI, letv, eqI, leI, ltI, addI, mulI, subI, clI, at_nI, put_nI, nI_s, orI, shl1I, ifb0, ifb1, Option.bind_some, gx, ux, Nat.add_zero, Nat.zero_add, Nat.not_lt_zero, false_or, or_false, Nat.mul_zero, Nat.zero_mul]
          by_cases hin : n ≤ i
          · have : i = n := by omega
            subst this
            left
            simp (disch := omega) only [if_pos hin]
            split
            · next h => simp only [h, if_false]
            · next h => simp only [Classical.not_not.mp h, if_true]
          · right
            simp (disch := omega) only [if_neg hin, litI, letv, eqI, leI, ltI, addI, mulI, subI, clI, at_nI, put_nI, nI_s, orI, shl1I, ifb0, ifb1, Option.bind_some, gx, ux, Nat.add_zero, Nat.zero_add, Nat.not_lt_zero, false_or, or_false, Nat.mul_zero, Nat.zero_mul, beats]
            by_cases q : (b (2 * j) ≤ b (2 * i) ∧ b (2 * j + 1) ≤ b (2 * i + 1) ∧ b (2 * j) + b (2 * j + 1) < b (2 * i) + b (2 * i + 1))
            · rw [if_neg (not_not_intro q)]
              refine ⟨by omega, (_, _), rfl, ?_⟩
              rw [if_pos ⟨i, by omega, q⟩]; rfl
            · rw [if_pos q]
              refine ⟨by omega, (_, _), rfl, ?_⟩
              have e : (∃ j', j' < i + 1 ∧ (b (2 * j) ≤ b (2 * j') ∧ b (2 * j + 1) ≤ b (2 * j' + 1) ∧ b (2 * j) + b (2 * j + 1) < b (2 * j') + b (2 * j' + 1))) = (∃ j', j' < i ∧ (b (2 * j) ≤ b (2 * j') ∧ b (2 * j + 1) ≤ b (2 * j' + 1) ∧ b (2 * j) + b (2 * j + 1) < b (2 * j') + b (2 * j' + 1))) := propext ⟨fun ⟨j', h1, h2⟩ => by
                by_cases e : j' = i
                · subst e; exact absurd h2 q
                · exact ⟨j', by omega, h2⟩, fun ⟨j', h1, h2⟩ => ⟨j', by omega, h2⟩⟩
              simp only [e]; rfl
        simp (disch := omega) only [if_neg hjn, f9_likely_b103, inner, f10_likely_b97, litI, letv, eqI, leI, ltI, addI, mulI, subI, clI, at_nI, put_nI, nI_s, orI, shl1I, ifb0, ifb1, Option.bind_some, gx, ux, Nat.add_zero, Nat.zero_add, Nat.not_lt_zero, false_or, or_false, Nat.mul_zero, Nat.zero_mul, octet_c hn' hb2, byteAt_c open_2 hn' hb1, nine _ open_2]
        by_cases u : nI (b (2 * j) * b (2 * j + 1)) ≤ y
        · simp (disch := omega) only [u, if_true, Int32.not_lt.mpr u, if_false]
          split
          · next h => exact ⟨by omega, (_, _, _, _), (_, _, _, _), rfl, by first | rfl | (rw [if_neg h]; done) | (rw [if_neg h]; rfl), _, _, _, rfl, rfl⟩
          · next h => exact ⟨by omega, (_, _, _, _), (_, _, _, _), rfl, by first | rfl | (rw [if_pos (Classical.not_not.mp h)]; done) | (rw [if_pos (Classical.not_not.mp h)]; rfl), _, _, _, rfl, rfl⟩
        · simp (disch := omega) only [u, if_false, Int32.not_le.mp u, if_true]
          split
          · next h => exact ⟨by omega, (_, _, _, _), (_, _, _, _), rfl, by first | rfl | (rw [if_neg h]; done) | (rw [if_neg h]; rfl), _, _, _, rfl, rfl⟩
          · next h => exact ⟨by omega, (_, _, _, _), (_, _, _, _), rfl, by first | rfl | (rw [if_pos (Classical.not_not.mp h)]; done) | (rw [if_pos (Classical.not_not.mp h)]; rfl), _, _, _, rfl, rfl⟩) (_, _, _, _) (_, _, _, _) ⟨nI 0, -nI 1, nI 0, rfl, rfl⟩
    refine ⟨r, r', e1, e2, e3, ?_⟩
    rw [e4, e5]
    exact inv_tape0 hI0 rfl rfl
  · simp (disch := omega) only [if_neg hm, litI, letv, eqI, leI, ltI, addI, mulI, subI, clI, at_nI, put_nI, nI_s, orI, shl1I, ifb0, ifb1, Option.bind_some, gx, ux, Nat.add_zero, Nat.zero_add, Nat.not_lt_zero, false_or, or_false, Nat.mul_zero, Nat.zero_mul, if_true]
    exact ⟨_, _, rfl, rfl, rfl, by rw [cset_id]; exact hI0⟩
