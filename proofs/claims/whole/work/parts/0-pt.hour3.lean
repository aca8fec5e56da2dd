/-! (3) what happens at one place -/
theorem bdp_le (hr : Nat) (w : Nat → Nat) (p : Nat) (d : Nat) : bdp hr w p d ≤ bdp hr w (p + 1) d := by
  unfold bdp
  by_cases u : w d < p
  · rw [if_pos u, if_pos (by omega)]; exact Nat.le_refl _
  · rw [if_neg u]; omega
theorem turn_c {T hr F p : Nat} {w nx : Nat → Nat} {f0 fs fB fL g : Nat → Int32} {A0 As AB AL B : Nat → Nat → Int32} {c0 d0 : Int32} (hB : RB T nx (fB 0) (g 6) (AB 1) (B 3)) (hM : MEN T F w fs As (B 0)) (hS : RSb T hr (bdp hr w p) fs As (B 0)) (hL : LAWR fL AL g B) (hC : CR F w (A0 0)) (hp : p < 16) (hh : hr < 9999) (hc : g 41 = c0 + f0 2) (hd : g 42 = d0 + f0 3) : ∃ A0' f0' As' fs' AL' fL' B' g', f5_know f0 A0 fs As (nI p) (nI (nx p)) = some A0' ∧ f5_tempt f0 A0' fs As fL AL (nI p) = some (f0', As', fs', AL', fL') ∧ f10_turnOf g B (nI p) = some (B', g') ∧ (∀ j, j ≠ 1 → A0' j = A0 j) ∧ MEN T F w fs' As' (B' 0) ∧ RSb T hr (bdp hr w (p + 1)) fs' As' (B' 0) ∧ LAWR fL' AL' g' B' ∧ g' 41 = c0 + f0' 2 ∧ g' 42 = d0 + f0' 3 ∧ (∀ j, j ≠ 0 → j ≠ 29 → j ≠ 30 → B' j = B j) ∧ (∀ j, j ≠ 41 → j ≠ 42 → g' j = g j) ∧ (f0' 2 = f0 2 ∨ f0' 2 = f0 2 + nI 1) := by
  obtain ⟨A0', B1, e1, e2, e3, e4, e5⟩ := know_c (f0 := f0) hB hM hS hC hp
  have hL1 : LAWR fL AL g B1 := hL.congr rfl (fun _ _ => rfl) rfl (fun j h1 h2 => e5 j (by omega))
  obtain ⟨r, AL1, fL1, B2, s1, s2, s3, s4, s5⟩ := safe_c hL1 (X := A0' 1) e3
  have hL2 : LAWR fL1 AL1 g B2 := hL1.congr (s4 9 (by decide)) (fun j hj => s3 j (by omega)) rfl (fun j h1 h2 => s5 j (by omega))
  have e3' : ∀ i, i < 8 → A0' 1 i = B2 30 i := fun i hi => by rw [s5 30 (by decide)]; exact e3 i hi
  by_cases hr0 : ¬ r = nI 0
  · refine ⟨A0', f0, As, fs, AL1, fL1, B2, g, e1, ?_, ?_, e4, ?_, ?_, hL2, hc, hd, fun j j0 j1 j2 => by rw [s5 j j1, e5 j j2], fun _ _ _ => rfl, Or.inl rfl⟩
    · unfold f5_tempt
      simp (maxSteps := 3000000) (disch := omega) only [s1, litI, letv, eqI, leI, ltI, addI, mulI, subI, clI, addneg, at_nI, put_nI, nI_s, orI, shl1I, ifb0, ifb1, Option.bind_some, gx, ux, Nat.add_zero, Nat.zero_add, Nat.not_lt_zero, false_or, or_false, Nat.mul_zero, Nat.zero_mul, hr0, if_false]
    · unfold f10_turnOf
      have s2' : f10_holdsAny g B1 (nI 115) = some (r, B2) := s2
      simp (maxSteps := 3000000) (disch := omega) only [e2, litI, letv, eqI, leI, ltI, addI, mulI, subI, clI, addneg, at_nI, put_nI, nI_s, orI, shl1I, ifb0, ifb1, Option.bind_some, gx, ux, Nat.add_zero, Nat.zero_add, Nat.not_lt_zero, false_or, or_false, Nat.mul_zero, Nat.zero_mul, s2', hr0, if_false]
    · rw [s5 0 (by decide), e5 0 (by decide)]; exact hM
    · rw [s5 0 (by decide), e5 0 (by decide)]; exact hS.mono (fun d _ => bdp_le hr w p d)
  replace hr0 : r = nI 0 := Classical.not_not.mp hr0
  subst hr0
  obtain ⟨r2, AL2, fL2, B3, t1, t2, t3, t4, t5, t6⟩ := rate_c hL2 (X := A0' 1) e3' (z0 := 114) (M := 10) (Or.inr rfl) (by decide)
  have hL3 : LAWR fL2 AL2 g B3 := hL2.congr (t5 9 (by decide)) (fun j hj => t4 j (by omega)) rfl (fun j h1 h2 => t6 j (by omega))
  have z3 : B3 0 = B 0 := by rw [t6 0 (by decide), s5 0 (by decide), e5 0 (by decide)]
  obtain ⟨x, x1, x2, x3⟩ := hS.2.2.2.2
  obtain ⟨cr, cr1, cr2, cr3⟩ := hS.2.2.2.1
  obtain ⟨dd, dd1, dd2, dd3⟩ := hS.2.2.1
  obtain ⟨-, ⟨gr, g1, g2, g3⟩, -⟩ := hS.1 p hp
  have hx' : (25173 * x + 13849) % 65536 < 65536 := Nat.mod_lt _ (by decide)
  have hx9 : (25173 * x + 13849) < 2147483648 := by omega
  generalize hxx : (25173 * x + 13849) % 65536 = x' at hx'
  have dr : f6_draw fs As = some (nI (x' % 10), upd fs 9 (nI x')) := by
    unfold f6_draw
    simp (maxSteps := 3000000) (disch := omega) only [litI, letv, eqI, leI, ltI, addI, mulI, subI, clI, addneg, at_nI, put_nI, nI_s, orI, shl1I, ifb0, ifb1, Option.bind_some, gx, ux, Nat.add_zero, Nat.zero_add, Nat.not_lt_zero, false_or, or_false, Nat.mul_zero, Nat.zero_mul, x2, andI, irmI, upd_s]
    have e : (25173 * x + 13849) &&& 65535 = x' := by
      rw [← hxx]
      exact Nat.and_two_pow_sub_one_eq_mod _ 16
    simp (maxSteps := 3000000) (disch := omega) only [e, irmI]
  let B4 := updA B3 0 (upd (B 0) 75 (nI x'))
  have hB4 : B4 = updA B3 0 (upd (B 0) 75 (nI x')) := rfl
  have z4 : B4 0 = upd (B 0) 75 (nI x') := updA_s
  have n4 : ∀ j, j ≠ 0 → B4 j = B3 j := fun j hj => updA_n hj
  have hM4 : MEN T F w (upd fs 9 (nI x')) As (B4 0) := by
    rw [z4]
    exact hM.congr (upd_n (by decide)) rfl (fun j h1 h2 => upd_n (by omega))
  have hS4 : RSb T hr (bdp hr w p) (upd fs 9 (nI x')) As (B4 0) := by
    rw [z4]
    exact hS.lot hx'
  have hL4 : LAWR fL2 AL2 g B4 := hL3.congr rfl (fun _ _ => rfl) rfl (fun j h1 h2 => n4 j (by omega))
  have n4' : ∀ j, j ≠ 0 → j ≠ 29 → j ≠ 30 → B4 j = B j := fun j j0 j1 j2 => by rw [n4 j j0, t6 j j1, s5 j j1, e5 j j2]
  have at4 : f10_menAt g B4 (nI p) = some (nI (stands F w p)) := hM4.at10 hp
  have c3 := stands_lt F w p
  have c4 : popc (stands F w p) 16 = 0 ↔ stands F w p = 0 := popc_zero (by omega)
  have c5 := popc_le (stands F w p) 16
  have c6 : A0' 0 p = nI (popc (stands F w p) 16) := by rw [e4 0 (by decide)]; exact hC p hp
  have s2' : f10_holdsAny g B1 (nI 115) = some (nI 0, B2) := s2
  have t3' : f10_byLaw g B2 (nI 114) (nI 10) = some (nI r2, B3) := t3
  have t1' : f2_rate fL1 AL1 8 (A0' 1) (nI 114) (nI 10) = some (nI r2, AL2, fL2) := t1
  have x3' : B3 0 75 = nI x := by rw [z3]; exact x3
  have hxm : x' % 10 < 10 := Nat.mod_lt _ (by decide)
  by_cases hz : stands F w p = 0
  · have hz' := c4.mpr hz
    by_cases hq : r2 ≤ x' % 10
    · refine ⟨A0', f0, As, upd fs 9 (nI x'), AL2, fL2, B4, g, e1, ?_, ?_, e4, hM4, hS4.mono (fun d _ => bdp_le hr w p d), hL4, hc, hd, n4', fun _ _ _ => rfl, Or.inl rfl⟩
      · unfold f5_tempt f5_tempt_b40
        simp (maxSteps := 3000000) (disch := omega) only [s1, litI, letv, eqI, leI, ltI, addI, mulI, subI, clI, addneg, at_nI, put_nI, nI_s, orI, shl1I, ifb0, ifb1, Option.bind_some, gx, ux, Nat.add_zero, Nat.zero_add, Nat.not_lt_zero, false_or, or_false, Nat.mul_zero, Nat.zero_mul, if_true, t1', dr, hq, c6, hz', Nat.le_refl]
      · unfold f10_turnOf
        simp (maxSteps := 3000000) (disch := omega) only [e2, litI, letv, eqI, leI, ltI, addI, mulI, subI, clI, addneg, at_nI, put_nI, nI_s, orI, shl1I, ifb0, ifb1, Option.bind_some, gx, ux, Nat.add_zero, Nat.zero_add, Nat.not_lt_zero, false_or, or_false, Nat.mul_zero, Nat.zero_mul, s2', if_true, t3', x3', irmI, hxx, z3, ← hB4, at4, hz, z4, upd_s, hq]
    · have eu : (if cr + 1 ≤ 9999 then cr + 1 else 9999) = (if 9999 < cr + 1 then 9999 else cr + 1) := by
        split <;> split <;> omega
      have ev : (if dd + gr ≤ 999999 then dd + gr else 999999) = (if 999999 < dd + gr then 999999 else dd + gr) := by
        split <;> split <;> omega
      have hu : (if 9999 < cr + 1 then 9999 else cr + 1) ≤ 9999 := by split <;> omega
      have hv : (if 999999 < dd + gr then 999999 else dd + gr) ≤ 999999 := by split <;> omega
      have y3 : B4 0 73 = nI cr := by rw [z4, upd_n (by decide)]; exact cr3
      have y2 : B4 0 72 = nI dd := by rw [z4, upd_n (by decide)]; exact dd3
      have yg : B4 0 (16 + p) = nI gr := by rw [z4, upd_n (by omega)]; exact g3
      have m1 : f10_min (nI 9999) (nI (cr + 1)) = nI (if 9999 < cr + 1 then 9999 else cr + 1) := by
        rw [min10I (by omega) (by omega)]
        congr 1
      have m2 : f10_min (nI 999999) (nI (dd + gr)) = nI (if 999999 < dd + gr then 999999 else dd + gr) := by
        rw [min10I (by omega) (by omega)]
        congr 1
      have k1 : imin (nI (cr + 1)) (nI 9999) = nI (if 9999 < cr + 1 then 9999 else cr + 1) := iminI (by omega) (by omega)
      have k2 : imin (nI (dd + gr)) (nI 999999) = nI (if 999999 < dd + gr then 999999 else dd + gr) := iminI (by omega) (by omega)
      generalize (if 9999 < cr + 1 then 9999 else cr + 1) = u at eu hu m1 k1
      generalize (if 999999 < dd + gr then 999999 else dd + gr) = v at ev hv m2 k2
      refine ⟨A0', upd f0 2 (f0 2 + nI 1), As, upd (upd (upd fs 9 (nI x')) 7 (nI u)) 6 (nI v), AL2, fL2, updA (updA B4 0 (upd (B4 0) 73 (nI u))) 0 (upd (upd (B4 0) 73 (nI u)) 72 (nI v)), upd g 41 (g 41 + nI 1), e1, ?_, ?_, e4, ?_, ?_, ?_, ?_, ?_, ?_, fun j j0 j1 => upd_n j0, Or.inr upd_s⟩
      · unfold f5_tempt f5_tempt_b40
        have q7 : upd fs 9 (nI x') 7 = nI cr := (upd_n (by decide)).trans cr2
        have q6 : upd (upd fs 9 (nI x')) 7 (nI u) 6 = nI dd := by rw [upd_n (by decide), upd_n (by decide)]; exact dd2
        simp (maxSteps := 3000000) (disch := omega) only [s1, litI, letv, eqI, leI, ltI, addI, mulI, subI, clI, addneg, at_nI, put_nI, nI_s, orI, shl1I, ifb0, ifb1, Option.bind_some, gx, ux, Nat.add_zero, Nat.zero_add, Nat.not_lt_zero, false_or, or_false, Nat.mul_zero, Nat.zero_mul, if_true, t1', dr, hq, c6, hz', Nat.le_refl, if_false, if_neg, q7, k1, q6, g2, k2]
      · unfold f10_turnOf
        simp (maxSteps := 3000000) (disch := omega) only [e2, litI, letv, eqI, leI, ltI, addI, mulI, subI, clI, addneg, at_nI, put_nI, nI_s, orI, shl1I, ifb0, ifb1, Option.bind_some, gx, ux, Nat.add_zero, Nat.zero_add, Nat.not_lt_zero, false_or, or_false, Nat.mul_zero, Nat.zero_mul, s2', if_true, t3', x3', irmI, hxx, z3, ← hB4, at4, hz, z4, upd_s, hq, if_false, if_neg]
        rw [← z4]
        simp (maxSteps := 3000000) (disch := omega) only [y3, addI, m1, updA_s, upd_n, y2, yg, m2]
      · rw [updA_s]
        exact hM4.congr (by rw [upd_n (by decide), upd_n (by decide)]) rfl (fun j h1 h2 => by rw [upd_n (by omega), upd_n (by omega)])
      · rw [updA_s]
        exact (hS4.mono (fun d _ => bdp_le hr w p d)).crime hu hv
      · exact hL4.congr rfl (fun _ _ => rfl) (upd_n (by decide)) (fun j h1 h2 => by rw [updA_n (by omega), updA_n (by omega)])
      · rw [upd_s, upd_s, hc, Int32.add_assoc]
      · rw [upd_n (by decide), upd_n (by decide)]; exact hd
      · intro j j0 j1 j2
        rw [updA_n j0, updA_n j0]
        exact n4' j j0 j1 j2
  · have hz' : ¬ popc (stands F w p) 16 = 0 := fun h => hz (c4.mp h)
    have hB4' : RB T nx (fB 0) (g 6) (AB 1) (B4 3) := by rw [n4' 3 (by decide) (by decide) (by decide)]; exact hB
    obtain ⟨A0'', B5, k1, k2, k3, k4, k5⟩ := know_c (f0 := f0) hB4' hM4 hS4 hC hp
    rw [know_same (upd_n (by decide)) (upd_n (by decide)), e1] at k1
    injection k1 with k1
    subst k1
    have hL5 : LAWR fL2 AL2 g B5 := hL4.congr rfl (fun _ _ => rfl) rfl (fun j h1 h2 => k5 j (by omega))
    obtain ⟨pn, AL6, fL6, B6, u1, u2, u3, u4, u5, u6⟩ := rate_c hL5 (X := A0' 1) k3 (z0 := 119) (M := 99) (Or.inl rfl) (by decide)
    have hL6 : LAWR fL6 AL6 g B6 := hL5.congr (u5 9 (by decide)) (fun j hj => u4 j (by omega)) rfl (fun j h1 h2 => u6 j (by omega))
    have z6 : B6 0 = B4 0 := by rw [u6 0 (by decide), k5 0 (by decide)]
    obtain ⟨f0', As', B7, g7, v1, v2, v3, v4, v5, v6, v7, v8⟩ := pay_c (f0 := f0) (g := g) (A0 := A0') (B := B6) (d0 := d0) (T := T) (F := F) (w := w) (p := p) (hr := hr) (pn := pn) (fs := upd fs 9 (nI x')) (As := As) (by rw [z6]; exact hM4) (by rw [z6]; exact hS4) hp hh u2 hd
    refine ⟨A0', f0', As', upd fs 9 (nI x'), AL6, fL6, B7, g7, e1, ?_, ?_, e4, v3, v4, ?_, ?_, v5, ?_, fun j j0 j1 => v7 j j1, Or.inl (v8 2 (by decide))⟩
    · unfold f5_tempt f5_tempt_b40
      have u1' : f2_rate fL2 AL2 8 (A0' 1) (nI 119) (nI 99) = some (nI pn, AL6, fL6) := u1
      simp (maxSteps := 3000000) (disch := omega) only [s1, litI, letv, eqI, leI, ltI, addI, mulI, subI, clI, addneg, at_nI, put_nI, nI_s, orI, shl1I, ifb0, ifb1, Option.bind_some, gx, ux, Nat.add_zero, Nat.zero_add, Nat.not_lt_zero, false_or, or_false, Nat.mul_zero, Nat.zero_mul, if_true, t1', dr, c6, hz', Nat.le_zero, if_false, u1', v1, ite_self]
    · unfold f10_turnOf f10_pays
      have u3' : f10_byLaw g B5 (nI 119) (nI 99) = some (nI pn, B6) := u3
      have v2' : f10_pays_l16 (nI p) NF B6 g (nI pn) (nI 0) = some (B7, g7) := v2
      simp (maxSteps := 3000000) (disch := omega) only [e2, litI, letv, eqI, leI, ltI, addI, mulI, subI, clI, addneg, at_nI, put_nI, nI_s, orI, shl1I, ifb0, ifb1, Option.bind_some, gx, ux, Nat.add_zero, Nat.zero_add, Nat.not_lt_zero, false_or, or_false, Nat.mul_zero, Nat.zero_mul, s2', if_true, t3', x3', irmI, hxx, z3, ← hB4, at4, hz, if_false, k2, u3', v2']
    · exact hL6.congr rfl (fun _ _ => rfl) (v7 17 (by decide)) (fun j h1 h2 => v6 j (by omega))
    · rw [v7 41 (by decide), v8 2 (by decide)]; exact hc
    · intro j j0 j1 j2
      rw [v6 j j0, u6 j j1, k5 j j2]
      exact n4' j j0 j1 j2
/-! AN HOUR -/
theorem hour_c {T : Nat} {nx : Nat → Nat} {f0 fs fB fL g : Nat → Int32} {A0 As AB AL B : Nat → Nat → Int32} {fW : Nat → Nat → Int32} {AW : Nat → Nat → Nat → Int32} (hB : RB T nx (fB 0) (g 6) (AB 1) (B 3)) (hS : RS T fs As (B 0)) (hW : RW fW AW (B 4) (B 5)) (hL : LAWR fL AL g B) (hh : fs 8 < nI 9999) : ∃ A0' f0' As' fs' AL' fL' B' g', f5_passes f0 A0 fs As fL AL fB AB fW AW = some (1, A0', f0', As', fs', AL', fL') ∧ f10_hourGoes g B = some (B', g') ∧ RS T fs' As' (B' 0) ∧ LAWR fL' AL' g' B' ∧ g' 41 = g 41 + f0' 2 ∧ g' 42 = g 42 + f0' 3 ∧ (∀ j, j ≠ 0 → j ≠ 29 → j ≠ 30 → B' j = B j) ∧ (∀ j, j ≠ 41 → j ≠ 42 → g' j = g j) ∧ ∃ d, d ≤ 16 ∧ f0' 2 = nI d := by
  obtain ⟨hr, F, w, hSb, hM⟩ := hS.split
  obtain ⟨hr1, hr2, hr3, -⟩ := hSb.2.1
  have hh' : hr < 9999 := by rw [hr2, ltI (by omega) (by omega)] at hh; exact hh
  obtain ⟨As1, B1, w1, a1, a2, a3, a4, a5⟩ := walk_c hB hW hM hSb
  have hB1 : RB T nx (fB 0) (g 6) (AB 1) (B1 3) := by rw [a5 3 (by decide)]; exact hB
  obtain ⟨A02, As2, B2, c1, c2, c3, c4, c5, c6, c7⟩ := look_c (f0 := upd (upd f0 2 0) 3 0) (A0 := A0) hB1 a3 a4
  have hL2 : LAWR fL AL g B2 := hL.congr rfl (fun _ _ => rfl) rfl (fun j h1 h2 => by rw [c7 j (by omega), a5 j (by omega)])
  unfold f5_passes
  rw [a2, c2]
  simp only [letv]
  rw [if_pos (show fs 8 < 9999 from hh), a1, Option.bind_some, c1, Option.bind_some]
  have key := loop_rel (fun n (s : (Nat → Nat → Int32) × (Nat → Int32) × (Nat → Nat → Int32) × (Nat → Int32) × (Nat → Nat → Int32) × (Nat → Int32) × Int32) => f5_passes_l38 fB AB fW AW n s.1 s.2.1 s.2.2.1 s.2.2.2.1 s.2.2.2.2.1 s.2.2.2.2.2.1 s.2.2.2.2.2.2) (fun n (s : (Nat → Nat → Int32) × (Nat → Int32) × Int32) => f10_hourGoes_l80 n s.1 s.2.1 s.2.2) 16
    (fun j s t => ∃ A0' f0' As' fs' AL' fL' B' g', s = (A0', f0', As', fs', AL', fL', nI j) ∧ t = (B', g', nI j) ∧ CR F w1 (A0' 0) ∧ MEN T F w1 fs' As' (B' 0) ∧ RSb T hr (bdp hr w1 j) fs' As' (B' 0) ∧ LAWR fL' AL' g' B' ∧ g' 41 = g 41 + f0' 2 ∧ g' 42 = g 42 + f0' 3 ∧ (∀ j, j ≠ 0 → j ≠ 29 → j ≠ 30 → B' j = B j) ∧ (∀ j, j ≠ 41 → j ≠ 42 → g' j = g j) ∧ ∃ d, d ≤ j ∧ f0' 2 = nI d)
    (fun a b => ∃ A0' f0' As' fs' AL' fL' B' g', a = some (1, A0', f0', As', fs', AL', fL') ∧ b = some (B', g') ∧ RS T fs' As' (B' 0) ∧ LAWR fL' AL' g' B' ∧ g' 41 = g 41 + f0' 2 ∧ g' 42 = g 42 + f0' 3 ∧ (∀ j, j ≠ 0 → j ≠ 29 → j ≠ 30 → B' j = B j) ∧ (∀ j, j ≠ 41 → j ≠ 42 → g' j = g j) ∧ ∃ d, d ≤ 16 ∧ f0' 2 = nI d) (by decide) (by
      rintro n m j s t hj ⟨A0', f0', As', fs', AL', fL', B', g', rfl, rfl, q1, q2, q3, q4, q5, q6, q7, q8, dn, dn1, dn2⟩
      by_cases h16 : 16 ≤ j
      · left
        have : j = 16 := by omega
        subst this
        obtain ⟨-, v8, v74, -⟩ := q3.2.1
        refine ⟨A0', f0', As', upd fs' 8 (nI (hr + 1)), AL', fL', updA B' 0 (upd (B' 0) 74 (nI (hr + 1))), g', ?_, ?_, ?_, ?_, q5, q6, fun i i0 i1 i2 => (updA_n i0).trans (q7 i i0 i1 i2), q8, dn, dn1, dn2⟩
        · show f5_passes_b38 fB AB fW AW (f5_passes_l38 fB AB fW AW n) A0' f0' As' fs' AL' fL' (nI 16) = _
          unfold f5_passes_b38
          simp (maxSteps := 3000000) (disch := omega) only [litI, letv, eqI, leI, ltI, addI, mulI, subI, clI, addneg, at_nI, put_nI, nI_s, orI, shl1I, ifb0, ifb1, Option.bind_some, gx, ux, Nat.add_zero, Nat.zero_add, Nat.not_lt_zero, false_or, or_false, Nat.mul_zero, Nat.zero_mul, if_pos, v8]
        · show f10_hourGoes_b80 (f10_hourGoes_l80 m) B' g' (nI 16) = _
          unfold f10_hourGoes_b80
          simp (maxSteps := 3000000) (disch := omega) only [litI, letv, eqI, leI, ltI, addI, mulI, subI, clI, addneg, at_nI, put_nI, nI_s, orI, shl1I, ifb0, ifb1, Option.bind_some, gx, ux, Nat.add_zero, Nat.zero_add, Nat.not_lt_zero, false_or, or_false, Nat.mul_zero, Nat.zero_mul, if_pos, v74]
        · rw [updA_s]
          refine RS.join (q3.hour hh') (q2.congr (upd_n (by decide)) rfl (fun i h1 h2 => upd_n (by omega))) (fun c hc => ?_)
          unfold bdp
          split <;> omega
        · exact q4.congr rfl (fun _ _ => rfl) rfl (fun i h1 h2 => updA_n (by omega))
      right
      refine ⟨by omega, ?_⟩
      have hB' : RB T nx (fB 0) (g' 6) (AB 1) (B' 3) := by rw [q7 3 (by decide) (by decide) (by decide), q8 6 (by decide) (by decide)]; exact hB
      obtain ⟨b1, b2, b3, b4, b5, b6, b7⟩ := hB'
      show ∃ (s' : (Nat → Nat → Int32) × (Nat → Int32) × (Nat → Nat → Int32) × (Nat → Int32) × (Nat → Nat → Int32) × (Nat → Int32) × Int32) (t' : (Nat → Nat → Int32) × (Nat → Int32) × Int32), f5_passes_b38 fB AB fW AW (f5_passes_l38 fB AB fW AW n) A0' f0' As' fs' AL' fL' (nI j) = f5_passes_l38 fB AB fW AW n s'.1 s'.2.1 s'.2.2.1 s'.2.2.2.1 s'.2.2.2.2.1 s'.2.2.2.2.2.1 s'.2.2.2.2.2.2 ∧ f10_hourGoes_b80 (f10_hourGoes_l80 m) B' g' (nI j) = f10_hourGoes_l80 m t'.1 t'.2.1 t'.2.2 ∧ _
      by_cases q : T.testBit j = true
      · obtain ⟨C0, h0, Cs, hs, CL, hl, D, gg, y1, y2, y3, y4, y5, y6, y7, y8, y9, y10, y11, y12⟩ := turn_c ⟨b1, b2, b3, b4, b5, b6, b7⟩ q2 q3 q4 q1 (by omega) hh' q5 q6
        refine ⟨(C0, h0, Cs, hs, CL, hl, nI (j + 1)), (D, gg, nI (j + 1)), ?_, ?_, C0, h0, Cs, hs, CL, hl, D, gg, rfl, rfl, by rw [y4 0 (by decide)]; exact q1, y5, y6, y7, y8, y9, fun i i0 i1 i2 => (y10 i i0 i1 i2).trans (q7 i i0 i1 i2), fun i i0 i1 => (y11 i i0 i1).trans (q8 i i0 i1), ?_⟩
        · unfold f5_passes_b38
          simp (maxSteps := 3000000) (disch := omega) only [litI, letv, eqI, leI, ltI, addI, mulI, subI, clI, addneg, at_nI, put_nI, nI_s, orI, shl1I, ifb0, ifb1, Option.bind_some, gx, ux, Nat.add_zero, Nat.zero_add, Nat.not_lt_zero, false_or, or_false, Nat.mul_zero, Nat.zero_mul, if_neg, told9 b1 b2, q, eq_self, not_true, if_false, (b4 j (by omega)).1, y1, y2]
        · unfold f10_hourGoes_b80
          simp (maxSteps := 3000000) (disch := omega) only [litI, letv, eqI, leI, ltI, addI, mulI, subI, clI, addneg, at_nI, put_nI, nI_s, orI, shl1I, ifb0, ifb1, Option.bind_some, gx, ux, Nat.add_zero, Nat.zero_add, Nat.not_lt_zero, false_or, or_false, Nat.mul_zero, Nat.zero_mul, if_neg, told10 b1 b3, q, eq_self, not_true, if_false, y3]
        · rcases y12 with y12 | y12
          · exact ⟨dn, by omega, y12.trans dn2⟩
          · exact ⟨dn + 1, by omega, by rw [y12, dn2, addI]⟩
      · refine ⟨(A0', f0', As', fs', AL', fL', nI (j + 1)), (B', g', nI (j + 1)), ?_, ?_, A0', f0', As', fs', AL', fL', B', g', rfl, rfl, q1, q2, q3.mono (fun d _ => bdp_le hr w1 j d), q4, q5, q6, q7, q8, dn, by omega, dn2⟩
        · unfold f5_passes_b38
          simp (maxSteps := 3000000) (disch := omega) only [litI, letv, eqI, leI, ltI, addI, mulI, subI, clI, addneg, at_nI, put_nI, nI_s, orI, shl1I, ifb0, ifb1, Option.bind_some, gx, ux, Nat.add_zero, Nat.zero_add, Nat.not_lt_zero, false_or, or_false, Nat.mul_zero, Nat.zero_mul, if_neg, told9 b1 b2, q, Bool.false_eq_true, not_false_eq_true, if_true]
        · unfold f10_hourGoes_b80
          simp (maxSteps := 3000000) (disch := omega) only [litI, letv, eqI, leI, ltI, addI, mulI, subI, clI, addneg, at_nI, put_nI, nI_s, orI, shl1I, ifb0, ifb1, Option.bind_some, gx, ux, Nat.add_zero, Nat.zero_add, Nat.not_lt_zero, false_or, or_false, Nat.mul_zero, Nat.zero_mul, if_neg, told10 b1 b3, q, Bool.false_eq_true, not_false_eq_true, if_true]) (A02, upd (upd f0 2 0) 3 0, As2, fs, AL, fL, 0) (B2, g, 0) ⟨A02, upd (upd f0 2 0) 3 0, As2, fs, AL, fL, B2, g, rfl, rfl, c3, c5, c6.mono (fun d _ => by unfold bdp; omega), hL2, (Int32.add_zero _).symm, (Int32.add_zero _).symm, fun i i0 i1 i2 => (c7 i i0).trans (a5 i i0), fun _ _ _ => rfl, 0, by decide, rfl⟩
  exact key
