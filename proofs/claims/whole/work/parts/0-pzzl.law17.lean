theorem ok_law : OK_law INV := by
  rintro σf σA fW AW μf μA x1 hI
  have hI0 := hI
  obtain ⟨T, nx, hB, hS, hT, hW, hK, hL, hX⟩ := hI
  obtain ⟨sz, b, t1, t2, t3, t4, t5⟩ := hT.bytes
  have hNF := NF_ge
  have none : ∃ (r : Int32 × (Nat → Int32) × (Nat → Nat → Int32) × (Nat → Int32) × (Nat → Nat → Int32) × (Nat → Int32)) (r' : Int32 × (Nat → Nat → Int32) × (Nat → Int32)), some ((-1 : Int32), σf 1, σA 10, σf 10, σA 11, σf 11) = some r ∧ some ((-1 : Int32), μA, μf) = some r' ∧ r.1 = (r'.1) ∧ INV (cset (cset (cset σf 1 (r.2.1)) 10 (r.2.2.2.1)) 11 (r.2.2.2.2.2)) (cset (cset σA 10 (r.2.2.1)) 11 (r.2.2.2.2.1)) fW AW (r'.2.2) (r'.2.1) := ⟨_, _, rfl, rfl, rfl, by rw [cset_id, cset_id, cset_id, cset_id, cset_id]; exact hI0⟩
  unfold f9_law f10_law
  rw [in_eq]
  rcases within_c x1 (A := 1) (B := 240) (a := 1) (b := 240) rfl rfl (by decide) (by decide) with ⟨h, _⟩ | ⟨h, n, hn0, hn, rfl⟩
  · rw [if_pos h, if_pos h]; exact none
  rw [h, if_neg n10, if_neg n10, holds_c t2 t1 (by omega), t3]
  by_cases hsz : ¬ n ≤ sz
  · rw [if_neg hsz, if_pos (show nI 0 = (0 : Int32) from rfl), if_neg (show ¬ nI n ≤ nI sz by rw [leI (by omega) (by omega)]; exact hsz)]
    exact none
  replace hsz : n ≤ sz := Classical.not_not.mp hsz
  rw [if_pos hsz, if_neg (show ¬ nI 1 = 0 by decide), if_pos (show nI n ≤ nI sz by rw [leI (by omega) (by omega)]; exact hsz)]
  simp only [letv]
  obtain ⟨hC, hbf⟩ := begins_c (σf1 := σf 1) (μf := μf) (A1 := σA 1) (A0 := μA) (n := n)
  generalize hg0 : f10_beginsText μf μA (nI n) = g0
  rw [hg0] at hC hbf
  have g14 : g0 14 = nI 0 := by rw [← hg0]; show upd (upd (upd (upd μf 9 0) 10 (nI n)) 14 0) 16 0 14 = nI 0; rw [upd_n (by decide), upd_s]; rfl
  have g16 : g0 16 = nI 0 := by rw [← hg0]; show upd (upd (upd (upd μf 9 0) 10 (nI n)) 14 0) 16 0 16 = nI 0; rw [upd_s]; rfl
  have hX0 : TXT n b (σA 1) μA := ⟨by omega, t4, fun i hi => (t5 i (by omega)).1, fun i hi => (t5 i (by omega)).2⟩
  have hR0 : RU 0 0 (fun _ => 0) (fun _ => 0) (σA 11) (upd (upd (σf 11) 7 0) 9 0) μA g0 := ⟨by omega, upd_s, g16, ⟨by rw [upd_n (by decide), upd_s]; rfl, fun j hj => absurd hj (by omega)⟩, ⟨g14, fun j hj => absurd hj (by omega)⟩, fun j hj => absurd hj (by omega), fun i hi => absurd hi (by omega)⟩
  unfold f2_read
  simp only [letv]
  have build : ∀ (fT' : Nat → Int32) (X10 X11 : Nat → Nat → Int32) (Y10 Y11 : Nat → Int32) (Z : Nat → Nat → Int32) (h : Nat → Int32), fT' 1 = 0 → h 8 = 0 → (∀ j, j ≠ 8 → j ≠ 9 → j ≠ 10 → j ≠ 11 → j ≠ 12 → j ≠ 13 → j ≠ 14 → j ≠ 15 → j ≠ 16 → j ≠ 17 → h j = μf j) → (∀ j, j < 18 ∨ 28 < j → Z j = μA j) → LAWR Y10 X10 h Z → INV (cset (cset (cset σf 1 fT') 10 Y10) 11 Y11) (cset (cset σA 10 X10) 11 X11) fW AW h Z := by
    intro fT' X10 X11 Y10 Y11 Z h h1 h8 h2 h3 h4
    refine ⟨T, nx, ?_, ?_, ⟨0, by decide, h1, h8, fun i hi => absurd hi (by omega)⟩, ?_, ?_, h4, ?_⟩
    · show RB T nx (σf 2 0) (h 6) (σA 2 1) (Z 3)
      rw [h2 6 (by decide) (by decide) (by decide) (by decide) (by decide) (by decide) (by decide) (by decide) (by decide) (by decide), h3 3 (by omega)]; exact hB
    · show RS T (σf 3) (σA 3) (Z 0)
      rw [h3 0 (by omega)]; exact hS
    · show RW fW AW (Z 4) (Z 5)
      rw [h3 4 (by omega), h3 5 (by omega)]; exact hW
    · show RK T (σf 0 14) (h 51) (σf 5) (σA 5) (Z 2)
      rw [h2 51 (by decide) (by decide) (by decide) (by decide) (by decide) (by decide) (by decide) (by decide) (by decide) (by decide), h3 2 (by omega)]; exact hK
    · show RX (σA 12 0) (Z 43)
      rw [h3 43 (by omega)]; exact hX
  rcases rules_c (x := nI n) hn NF 0 NF 0 0 0 (fun _ => 0) (fun _ => 0) (σA 11) μA (upd (upd (σf 11) 7 0) 9 0) (f7_open (σf 1) (σA 1) (nI n)) g0 (by omega) (by omega) (by omega) (by omega) hX0 hC (by omega) hR0 with ⟨A', f', fT', B', g', z1, z2, z3, z4⟩ | ⟨A', f', fT', B', g', r, m, op, vl, z1, z2, z3, z4, z5, z6, z7⟩
  · have z1' : f2_read_l14 (σA 1) NF (σA 11) (upd (upd (σf 11) 7 0) 9 0) (f7_open (σf 1) (σA 1) (nI n)) 1 0 = some (A', f', fT') := z1
    rw [z1', Option.bind_some, fine_n z3.1, if_pos rfl, z2]
    unfold f10_law_b71
    simp only [letv]
    rw [if_pos trivial]
    refine ⟨_, _, rfl, rfl, ?_, build fT' (σA 10) A' (σf 10) f' B' (upd g' 8 0) z3.2.2 upd_s (fun j a b c d e f h k l m => ?_) ?_ ?_⟩
    · show f7_answer fT' (σA 1) (σf 10 9) = upd g' 8 0 11
      rw [answer_flt z3, upd_n (by decide)]
    · rw [upd_n a, z4.2 j b d e f h k l, hbf j b c h l]
    · exact fun j hj => z4.1 j (by omega)
    · exact LAWR.congr (fL := σf 10) (AL := σA 10) (g := μf) (B := μA) hL rfl (fun _ _ => rfl) (by rw [upd_n (by decide), z4.2 17 (by decide) (by decide) (by decide) (by decide) (by decide) (by decide) (by decide), hbf 17 (by decide) (by decide) (by decide) (by decide)]) (fun j h1 h2 => z4.1 j (by omega))
  · have z1' : f2_read_l14 (σA 1) NF (σA 11) (upd (upd (σf 11) 7 0) 9 0) (f7_open (σf 1) (σA 1) (nI n)) 1 0 = some (A', f', fT') := z1
    obtain ⟨u1, u2, u3, u4, u5, u6, u7⟩ := z6
    rw [z1', Option.bind_some, fine_c z3, if_neg n10, z2]
    unfold f10_law_b71
    simp only [letv]
    rw [if_neg n10]
    generalize hg2 : upd (upd g' 8 0) 17 (upd g' 8 0 16) = g2
    have g214 : g2 14 = nI m := by rw [← hg2, upd_n (by decide), upd_n (by decide)]; exact u5.1
    have g216 : g2 16 = nI r := by rw [← hg2, upd_n (by decide), upd_n (by decide)]; exact u3
    have g217 : g2 17 = nI r := by rw [← hg2, upd_s, upd_n (by decide)]; exact u3
    have g28 : g2 8 = 0 := by rw [← hg2, upd_n (by decide), upd_s]
    obtain ⟨B1, c1, c2, c3⟩ := copy95 (x := nI n) (B := B') z5 g214
    obtain ⟨B2, d1, d2, d3⟩ := copy123 (x := nI n) (B := B1) u1 g216
    refine ⟨_, _, rfl, c1.trans d1, ?_, build fT' A' (σA 10) f' (σf 10) B2 g2 z4 g28 (fun j a b c d e f h k l m => ?_) ?_ ?_⟩
    · show f7_answer fT' (σA 1) (f' 9) = nI r
      rw [answer_ok z3, u2]
    · rw [← hg2, upd_n m, upd_n a, z7.2 j b d e f h k l, hbf j b c h l]
    · exact fun j hj => by rw [d3 j (by omega), c3 j (by omega), z7.1 j (by omega)]
    · refine ⟨r, op, vl, u1, u2, g217, fun i hi => ?_⟩
      obtain ⟨z, a, h, e, q1, q2, q3, q4, q5, q6, q7, q8, q9, q10, q11, q12, q13, q14⟩ := u7 i hi
      obtain ⟨v1, v2, v3, v4⟩ := d2 i hi
      refine ⟨z, a, h, e, q1, q2, ?_, q4, ?_, q6, ?_, q8, ?_, q10, q11, by omega, q13, q14, fun j h1 h2 => ⟨(u6 j (by omega)).1, (u6 j (by omega)).2, (u4.2 j (by omega)).1, (u4.2 j (by omega)).2, ?_⟩⟩
      · rw [v1, c3 20 (by omega), q3]
      · rw [v2, c3 21 (by omega), q5]
      · rw [v3, c3 22 (by omega), q7]
      · rw [v4, c3 23 (by omega), q9]
      · rw [d3 24 (by omega), c2 j (by omega), u5.2 j (by omega)]
