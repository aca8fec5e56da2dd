def BOK (c x : Int32) (n : Nat) (b : Nat → Nat) (stop : Bool) (op pos l : Nat) (B : Nat → Nat → Int32) (g : Nat → Int32) (P : Option ((Nat → Nat → Int32) × (Nat → Int32) × (Nat → Int32))) (Q : Option (Int32 × (Nat → Nat → Int32) × (Nat → Int32))) : Prop :=
  (∃ A' f' fT' B' g', P = some (A', f', fT') ∧ Q = f10_beat_b80 c x B' g' 0 ∧ FLT fT' g' ∧ BFR 0 B' B g' g) ∨
  (∃ A' f' fT' B' g' pos' l' i' k', P = some (A', f', fT') ∧ Q = S2 c x i' k' B' g' ∧ CUR n pos' fT' g' ∧ pos < pos' ∧ l ≤ l' ∧ STP l' (A' 0) (B' 31) ∧ f' 1 = nI l' ∧ g' 35 = nI l' ∧ g' 36 = nI op ∧ BFR op B' B g' g ∧ 500 < i' + pos' ∧ 501 < k' + pos' ∧ (stop = true → chr n b pos' = -1 ∨ chr n b pos' = 41))
def ITS (c x : Int32) (n : Nat) (b : Nat → Nat) (AT : Nat → Nat → Int32) (d op : Nat) : Prop := ∀ (pos l i k : Nat) (A B : Nat → Nat → Int32) (f fT g : Nat → Int32), TXT n b AT B → CUR n pos fT g → STP l (A 0) (B 31) → f 1 = nI l → g 35 = nI l → g 36 = nI op → 500 < i + pos → 500 < k + pos → BOK c x n b true op pos l B g (f0_items_rec d 0 f A fT AT (nI op)) (S0 c x i k B g)
theorem l50_0 {c x : Int32} {k : Nat} {B : Nat → Nat → Int32} {g : Nat → Int32} : f10_beat_l50 c x (k + 1) B g 0 = f10_beat_b80 c x B g 0 := by
  show f10_beat_b50 c x (f10_beat_l50 c x k) B g 0 = _
  unfold f10_beat_b50
  rw [if_pos rfl]
/-- a fault of the reference, from inside a step -/
theorem S0_flt {c x : Int32} {i k : Nat} {B B' : Nat → Nat → Int32} {g g1 g' : Nat → Int32} (h1 : f10_readsTimes g B = some g1) (h2 : f10_readsStep_l4 i B g1 = some (0, B', g')) : S0 c x i (k + 1) B g = f10_beat_b80 c x B' g' 0 := by
  unfold S0
  rw [h1, Option.bind_some, h2, Option.bind_some]
  exact l50_0
theorem item_c {c x : Int32} {n d op : Nat} {b : Nat → Nat} {AT : Nat → Nat → Int32} (hn : n ≤ 60) (hop : op ≤ 2) (ih : op < 2 → ITS c x n b AT d (op + 1)) (pos l i k : Nat) (A B : Nat → Nat → Int32) (f fT g : Nat → Int32) (hX : TXT n b AT B) (hC : CUR n pos fT g) (hS : STP l (A 0) (B 31)) (h1 : f 1 = nI l) (h35 : g 35 = nI l) (h36 : g 36 = nI op) (hi : 500 < i + pos) (hk : 500 < k + pos) : BOK c x n b false op pos l B g (f0_items_rec (d + 2) 1 f A fT AT (nI op)) (S0 c x i k B g) := by
  have pn := hC.2.2.2.2.2
  have hl := hS.1
  obtain ⟨i, rfl⟩ : ∃ j, i = j + 1 := ⟨i - 1, by omega⟩
  obtain ⟨k, rfl⟩ : ∃ j, k = j + 1 := ⟨k - 1, by omega⟩
  obtain ⟨fT1, g1, pos1, t, r1, p1, t1, t9, hC1, g37, g38, gfr, hcase⟩ := times_c hX hC
  have f351 : g1 35 = nI l := (gfr 35 (by decide) (by decide) (by decide)).trans h35
  have f361 : g1 36 = nI op := (gfr 36 (by decide) (by decide) (by decide)).trans h36
  have rdr : f7_reader fT AT = nI pos := hC.2.1
  -- the class behind its digit
  have cls : f0_items_rec (d + 2) 1 f A fT AT (nI op) = f0_item_b41 (f0_items_rec (d + 1)) AT (nI op) A f fT1 (nI pos) (nI l) (nI t) := by
    show f0_item (f0_items_rec (d + 1)) f A fT AT (nI op) = _
    unfold f0_item
    rw [tlook_c hX hC, rdr, h1]
    rcases hcase with ⟨q1, rfl, rfl⟩ | ⟨q1, rfl, q3⟩
    · rw [if_pos q1]; rfl
    · rw [q1, if_neg n10, q3]
      rfl
  rw [cls]
  have BF1 : BFR op B B g1 g := ⟨fun _ _ _ _ _ => rfl, fun _ _ _ _ _ => rfl, fun j a b c d e f => gfr j a e f⟩
  have flt : ∀ (kk p : Int32), kk ≠ 0 → p = nI pos1 → ∀ (Q : Option (Int32 × (Nat → Nat → Int32) × (Nat → Int32))), f10_readsStep_l4 (i + 1) B g1 = ((f10_wrongAt g1 B kk p).bind fun q => if ¬ (q.1 = 0 ∨ q.1 = 1) then none else some (q.1, B, q.2)) → BOK c x n b false op pos l B g (some (A, f, f7_fail fT1 AT kk)) (S0 c x (i + 1) (k + 1) B g) := by
    intro kk p hkk hp Q hQ
    obtain ⟨g', w1, w2, w3⟩ := FLT.mk (g := g1) (B := B) (AT := AT) (k := kk) (p := p) hC1.2.2.1 hC1.1.2 hkk
    rw [wrong_b (P := none) w1] at hQ
    left
    refine ⟨A, f, f7_fail fT1 AT kk, B, g', rfl, S0_flt r1 hQ, ?_, fun _ _ _ _ _ => rfl, fun _ _ _ _ _ => rfl, fun j a b c d e f => (w3 j b).trans (gfr j a e f)⟩
    show FLT (f7_failAt fT1 AT kk (fT1 3)) g'
    rw [hC1.2.1, ← hp]; exact w2
  have e4 : ∀ i B g, f10_readsStep_l4 (i + 1) B g = f10_readsStep_b4 (f10_readsStep_l4 i) B g := fun _ _ _ => rfl
  have step4 : f10_readsStep_l4 (i + 1) B g1 = f10_readsStep_b4 (f10_readsStep_l4 i) B g1 := rfl
  unfold f0_item_b41
  rw [tlook_c hX hC1]
  by_cases c40 : chr n b pos1 = 40
  · -- a round opens
    rw [if_pos c40]
    have hlt1 := chr_lt (c := 40) c40 (by omega)
    have grp : ∀ f A, f0_items_rec (d + 1) 2 f A fT1 AT (nI op) = f0_group (f0_items_rec d) f A fT1 AT (nI op) := fun _ _ => rfl
    rw [grp]
    unfold f0_group
    by_cases h2 : ¬ op < 2
    · have : op = 2 := by omega
      subst this
      rw [if_neg (show ¬ nI 2 < 2 by decide)]
      simp only [letv, Option.bind_some]
      have hfl : (f7_fail fT1 AT 5) 4 ≠ 0 := by
        show f7_failAt fT1 AT 5 (fT1 3) 4 ≠ 0
        rw [fail_c hC1.2.2.1, upd_n (by decide), upd_s]; decide
      have rep : f0_repeat f A (f7_fail fT1 AT 5) AT (nI l) (nI t - 1) (nI pos) = some (A, f, f7_fail fT1 AT 5) := by
        unfold f0_repeat
        rw [fine_n hfl, if_pos rfl]
      rw [rep, Option.bind_some]
      refine flt 5 (g1 9) (by decide) hC1.2.2.2.2.1 none ?_
      rw [step4]
      unfold f10_readsStep_b4
      rw [here_c hX hC1, Option.bind_some, if_pos c40, f361, if_pos (show nI 2 = (2 : Int32) from rfl)]
    replace h2 : op < 2 := Classical.not_not.mp h2
    rw [if_pos (show nI op < 2 by rw [show (2 : Int32) = nI 2 from rfl, ltI (by omega) (by omega)]; exact h2)]
    simp only [letv]
    have iop : ¬ (nI op < 0 ∨ 2 ≤ (nI op).toNatClampNeg) := nI_in h2 (by decide)
    -- the reference lays up the round
    have ref4 : ∃ B2 g2, f10_readsStep_l4 (i + 1) B g1 = (f10_readsTimes g2 B2).bind (fun q => f10_readsStep_l4 i B2 q) ∧ CUR n (pos1 + 1) (f7_step fT1 AT) g2 ∧ g2 35 = nI l ∧ g2 36 = nI (op + 1) ∧ B2 31 = B 31 ∧ B2 32 op = nI pos ∧ B2 33 op = nI l ∧ B2 34 op = nI t ∧ BFR op B2 B g2 g1 := by
      rw [step4]
      unfold f10_readsStep_b4
      rw [here_c hX hC1, Option.bind_some, if_pos c40, f361, if_neg (show ¬ nI op = 2 by rw [show (2 : Int32) = nI 2 from rfl, eqI (by omega) (by omega)]; omega), if_neg iop]
      simp only [letv, if_neg iop]
      rw [g37, g38, f351, nI_s, ux_nI (by omega), ux_nI (by omega), ux_nI (by omega), updA_n (show (33 : Nat) ≠ 32 by decide), updA_n (show (34 : Nat) ≠ 33 by decide), updA_n (show (34 : Nat) ≠ 32 by decide)]
      refine ⟨_, _, rfl, ?_, ?_, ?_, ?_, ?_, ?_, ?_, fun j a b c d => ?_, fun j ii a b c => ?_, fun j a b c d e f => by rw [upd_n a, upd_n d]⟩
      · refine CUR.congr (g := upd g1 9 (g1 9 + 1)) (hC1.step hlt1) ?_ ?_
        · rw [upd_s, upd_s, upd_n (by decide)]
        · rw [upd_n (by decide), upd_n (by decide), upd_n (by decide)]
      · rw [upd_n (by decide), upd_n (by decide)]; exact f351
      · rw [upd_n (by decide), upd_s]
      · rw [updA_n (by decide), updA_n (by decide), updA_n (by decide)]
      · rw [updA_n (by decide), updA_n (by decide), updA_s, upd_s]
      · rw [updA_n (by decide), updA_s, upd_s]
      · rw [updA_s, upd_s]
      · rw [updA_n d, updA_n c, updA_n b]
      · rcases (show j = 32 ∨ j = 33 ∨ j = 34 by omega) with rfl | rfl | rfl
        · rw [updA_n (by decide), updA_n (by decide), updA_s, upd_n (by omega)]
        · rw [updA_n (by decide), updA_s, upd_n (by omega)]
        · rw [updA_s, upd_n (by omega)]
    obtain ⟨B2, g2, q1, q2, q3, q4, q5, q6, q7, q8, q9⟩ := ref4
    have s0 : S0 c x (i + 1) (k + 1) B g = S0 c x i (k + 1) B2 g2 := by
      unfold S0
      rw [r1, Option.bind_some, q1]
    have hX2 : TXT n b AT B2 := hX.congr (q9.1 7 (by decide) (by decide) (by decide) (by decide))
    rw [s0, show nI op + 1 = nI (op + 1) from nI_s op]
    rcases ih h2 (pos1 + 1) l i (k + 1) A B2 f (f7_step fT1 AT) g2 hX2 q2 (by rw [q5]; exact hS) h1 q3 q4 (by omega) (by omega) with ⟨A', f', fT', B', g', z1, z2, z3, z4⟩ | ⟨A', f', fT', B', g', pos', l', i', k', z1, z2, z3, z4, z5, z6, z7, z8, z9, z10, z11, z12, z13⟩
    · left
      rw [z1, Option.bind_some, take_dead z3.1, Option.bind_some, Option.bind_some]
      have rep : f0_repeat f' A' fT' AT (nI l) (nI t - 1) (nI pos) = some (A', f', fT') := by
        unfold f0_repeat
        rw [fine_n z3.1, if_pos rfl]
      rw [rep, Option.bind_some]
      exact ⟨A', f', fT', B', g', rfl, z2, z3, (z4.trans (q9.mono (Nat.zero_le _))).trans (BF1.mono (Nat.zero_le _))⟩
    · have hX3 : TXT n b AT B' := hX2.congr (z10.1 7 (by decide) (by decide) (by decide) (by decide))
      have pn' := z3.2.2.2.2.2
      rw [z1, Option.bind_some, take_fine z3.2.2.1]
      obtain ⟨i', rfl⟩ : ∃ j, i' = j + 1 := ⟨i' - 1, by omega⟩
      obtain ⟨k', rfl⟩ : ∃ j, k' = j + 1 := ⟨k' - 1, by omega⟩
      have e218 : S2 c x (i' + 1) (k' + 1) B' g' = (f10_readsStep_b218 (f10_readsStep_l218 i') B' g').bind fun q => f10_beat_l50 c x (k' + 1) q.2.1 q.2.2 q.1 := rfl
      rw [z2, e218]
      rw [tlook_c hX3 z3]
      unfold f10_readsStep_b218
      rw [here_c hX3 z3, Option.bind_some]
      rcases z13 rfl with hend | h41
      · -- the round does not close
        left
        have nlt := (chr_end hX.2.1).mp hend
        have ne41 : ¬ chr n b pos' = 41 := by rw [hend]; decide
        rw [if_neg ne41, if_neg ne41]
        simp only [letv, Option.bind_some]
        have hfl : (f7_fail fT' AT 1) 4 ≠ 0 := by
          show f7_failAt fT' AT 1 (fT' 3) 4 ≠ 0
          rw [fail_c z3.2.2.1, upd_n (by decide), upd_s]; decide
        have rep : f0_repeat f' A' (f7_fail fT' AT 1) AT (nI l) (nI t - 1) (nI pos) = some (A', f', f7_fail fT' AT 1) := by
          unfold f0_repeat
          rw [fine_n hfl, if_pos rfl]
        rw [rep, Option.bind_some]
        -- the reference goes on, and finds the end
        have e50 : f10_beat_l50 c x (k' + 1) B' g' 1 = (f10_readsStep g' B').bind fun q => f10_beat_l50 c x k' q.2.1 q.2.2 q.1 := by
          show f10_beat_b50 c x (f10_beat_l50 c x k') B' g' 1 = _
          unfold f10_beat_b50
          rw [if_neg n10, z3.2.2.2.2.1, z3.2.2.2.1, if_neg (show ¬ nI pos' < nI n by rw [ltI (by omega) (by omega)]; exact nlt), z9, if_neg (show ¬ nI (op + 1) ≤ 0 by rw [show (0 : Int32) = nI 0 from rfl, leI (by omega) (by omega)]; omega)]
        rw [e50]
        obtain ⟨fT5, g5, pos5, t5, y1, y2, y3, y4, y5, -, -, y8, y9⟩ := times_c hX3 z3
        have e5 : pos5 = pos' := by
          have := y5.2.2.2.2.2
          omega
        subst e5
        obtain ⟨NN, hNN⟩ : ∃ NN, NF = NN + 1 := ⟨NF - 1, by have := NF_ge; omega⟩
        obtain ⟨g6, w1, w2, w3⟩ := FLT.mk (g := g5) (B := B') (AT := AT) (fT := fT') (k := 1) (p := nI pos5) z3.2.2.1 z3.1.2 (by decide)
        have rs : f10_readsStep g' B' = some (0, B', g6) := by
          unfold f10_readsStep
          rw [y1, Option.bind_some, hNN]
          show f10_readsStep_b4 (f10_readsStep_l4 NN) B' g5 = _
          unfold f10_readsStep_b4
          rw [here_c hX3 y5, Option.bind_some, hend, if_neg (by decide), Option.bind_some, if_neg (by decide), if_pos (show f10_in (-1) 97 112 = 0 by decide), y5.2.2.2.2.1]
          exact wrong_b (P := none) w1
        obtain ⟨k', rfl⟩ : ∃ j, k' = j + 1 := ⟨k' - 1, by omega⟩
        rw [rs, Option.bind_some, l50_0]
        refine ⟨A', f', f7_fail fT' AT 1, B', g6, rfl, rfl, ?_, BFR.trans (B' := B') (g' := g') ⟨fun _ _ _ _ _ => rfl, fun _ _ _ _ _ => rfl, fun j a b c d e f => (w3 j b).trans (y8 j a e f)⟩ ((z10.mono (Nat.zero_le _)).trans ((q9.mono (Nat.zero_le _)).trans (BF1.mono (Nat.zero_le _))))⟩
        show FLT (f7_failAt fT' AT 1 (fT' 3)) g6
        rw [z3.2.1]; exact w2
      · -- it closes
        have hlt' := chr_lt (c := 41) h41 (by omega)
        rw [if_pos h41, if_pos h41]
        simp only [letv, Option.bind_some]
        have hC5 := z3.step (AT := AT) hlt'
        have iop' : ¬ (nI op < 0 ∨ 2 ≤ (nI op).toNatClampNeg) := iop
        have e36 : upd g' 9 (g' 9 + 1) 36 - 1 = nI op := by
          rw [upd_n (by decide), z9]; exact subI (a := op + 1) (b := 1) (by omega)
        rw [z9, if_neg (show ¬ nI (op + 1) ≤ 0 by rw [show (0 : Int32) = nI 0 from rfl, leI (by omega) (by omega)]; omega), e36, upd_s, if_neg iop, if_neg iop, if_neg iop, gx_nI (by omega), gx_nI (by omega), gx_nI (by omega), z10.2.1 33 op (by omega) (by omega) (by omega), z10.2.1 34 op (by omega) (by omega) (by omega), z10.2.1 32 op (by omega) (by omega) (by omega), q6, q7, q8]
        have hC6 : CUR n (pos' + 1) (f7_step fT' AT) (upd (upd g' 9 (g' 9 + 1)) 36 (nI op)) := hC5.congr (upd_n (by decide)) (upd_n (by decide))
        have BF3 : BFR op B' B (upd (upd g' 9 (g' 9 + 1)) 36 (nI op)) g := BFR.trans (B' := B') (g' := g') ⟨fun _ _ _ _ _ => rfl, fun _ _ _ _ _ => rfl, fun j a b c d e f => by rw [upd_n d, upd_n a]⟩ ((z10.mono (Nat.le_succ _)).trans (q9.trans BF1))
        rcases repeat_c (f := f') (A := A') (AT := AT) (B := B') (fr := l) (times := t) (first := nI pos) hC6 z6 z7 (by rw [upd_n (by decide), upd_n (by decide)]; exact z8) z5 t1 t9 with ⟨A6, f6, fT6, B6, g6, v1, v2, v3, v4⟩ | ⟨A6, f6, B6, g6, l6, v1, v2, v3, v4, v5, v6, v7, v8, v9⟩
        · left
          rw [v1, Option.bind_some, v2, Option.bind_some, if_pos rfl, Option.bind_some, l50_0]
          exact ⟨A6, f6, fT6, B6, g6, rfl, rfl, v3, (v4.mono (Nat.zero_le _)).trans (BF3.mono (Nat.zero_le _))⟩
        · right
          rw [v1, Option.bind_some, v2, Option.bind_some, if_neg n10]
          refine ⟨A6, f6, f7_step fT' AT, B6, g6, pos' + 1, l6, i', k' + 1, rfl, rfl, v3, by omega, by omega, v6, v7, v8, by rw [v4, upd_s], (v9.mono hop).trans BF3, by omega, by omega, fun h => absurd h (by decide)⟩
  · rw [if_neg c40]
    by_cases hlet : ¬ (chr n b pos1 = 46) ∧ f7_placeOf (chr n b pos1) = -1
    · rw [if_neg hlet.1, if_pos hlet.2]
      refine flt 1 (g1 9) (by decide) hC1.2.2.2.2.1 none ?_
      rw [step4]
      unfold f10_readsStep_b4
      have hin : f10_in (chr n b pos1) 97 112 = 0 := by
        rcases letter_c hX.2.1 pos1 with ⟨h, h'⟩ | ⟨p, hp, h, h', -⟩
        · rw [in_eq]
          rcases within_c (chr n b pos1) (A := 97) (B := 112) (a := 97) (b := 112) rfl rfl (by decide) (by decide) with ⟨h2, _⟩ | ⟨h2, j, j1, j2, j3⟩
          · exact h2
          · exfalso
            have hf := hlet.2
            unfold f7_placeOf at hf
            rw [h2, if_neg n10, j3, show nI j - 97 = nI (j - 97) from subI (a := j) (b := 97) (by omega), show (-1 : Int32) = -nI 1 from rfl, eq_neg (by omega) (by omega) (by omega)] at hf
            exact hf
        · rw [h', show (-1 : Int32) = -nI 1 from rfl, eq_neg (by omega) (by omega) (by omega)] at hlet
          exact absurd hlet.2 not_false
      rw [here_c hX hC1, Option.bind_some, if_neg c40, Option.bind_some, if_neg hlet.1, if_pos hin]
    · -- a letter or a dot
      have hlt1 : pos1 < n := by
        by_cases q : pos1 < n
        · exact q
        · exfalso
          apply hlet
          have := (chr_end (n := n) (pos := pos1) hX.2.1).mpr q
          rw [this]
          exact ⟨by decide, by decide⟩
      -- the step as both write it
      obtain ⟨v, hv, vc, vr⟩ : ∃ v : Int32, (v = -1 ∨ ∃ u, u < 16 ∧ v = nI u) ∧ (if chr n b pos1 = 46 then f0_item_b91 (f0_items_rec (d + 1)) AT (nI op) A f fT1 (nI pos) (nI l) (nI t) (chr n b pos1) else if f7_placeOf (chr n b pos1) = -1 then letv (f7_fail fT1 AT 1) fun z_7 => some (A, f, z_7) else f0_item_b91 (f0_items_rec (d + 1)) AT (nI op) A f fT1 (nI pos) (nI l) (nI t) (chr n b pos1)) = (if (f 1) < 48 then f0_item_b132 (f0_items_rec (d + 1)) AT (nI op) A f fT1 (nI pos) (nI l) (nI t) v (f 1) else some (A, f, f7_failAt fT1 AT 6 (nI pos))) ∧ f10_readsStep_l4 (i + 1) B g1 = (if nI l + nI t ≤ 48 then f10_readsStep_b190 B (upd g1 9 (g1 9 + 1)) (nI pos) (nI t) v (nI l) else ((f10_wrongAt g1 B 6 (nI pos)).bind fun q => if ¬ (q.1 = 0 ∨ q.1 = 1) then none else some (q.1, B, q.2))) := by
        rw [step4]
        unfold f10_readsStep_b4 f0_item_b91 f10_readsStep_b139
        rw [here_c hX hC1, Option.bind_some, if_neg c40, Option.bind_some, g37, g38, f351]
        by_cases h46 : chr n b pos1 = 46
        · refine ⟨-1, Or.inl rfl, ?_, ?_⟩
          · rw [if_pos h46, if_pos h46]; rfl
          · simp only [letv, if_pos h46]
            rw [upd_n (by decide), f351]
        · rcases letter_c hX.2.1 pos1 with ⟨h, h'⟩ | ⟨p, hp, h, h', h3, h4⟩
          · exact absurd ⟨h46, h⟩ hlet
          · have hin : f10_in (chr n b pos1) 97 112 = 1 := by
              rw [in_eq, h, show (97 : Int32) = nI 97 from rfl, show (112 : Int32) = nI 112 from rfl, withinI (by omega) (by omega) (by omega), if_pos (by omega)]
              rfl
            refine ⟨nI p, Or.inr ⟨p, hp, rfl⟩, ?_, ?_⟩
            · rw [if_neg h46, h', if_neg (show ¬ nI p = -1 by rw [show (-1 : Int32) = -nI 1 from rfl, eq_neg (by omega) (by omega) (by omega)]; exact not_false), if_neg h46]; rfl
            · rw [if_neg h46, hin, if_neg n10]
              simp only [letv, if_neg h46]
              rw [upd_n (by decide), f351, h3]
      rw [vc, h1]
      by_cases h48 : ¬ l + t ≤ 48
      · left
        obtain ⟨g', w1, w2, w3⟩ := FLT.mk (g := g1) (B := B) (AT := AT) (k := 6) (p := nI pos) hC1.2.2.1 hC1.1.2 (by decide)
        rw [addI, if_neg (show ¬ nI (l + t) ≤ 48 by rw [show (48 : Int32) = nI 48 from rfl, leI (by omega) (by omega)]; exact h48), wrong_b (P := none) w1] at vr
        have BFf : BFR 0 B B g' g := ⟨fun _ _ _ _ _ => rfl, fun _ _ _ _ _ => rfl, fun j a b c d e f => (w3 j b).trans (gfr j a e f)⟩
        by_cases l48 : l < 48
        · rw [if_pos (show nI l < 48 by rw [show (48 : Int32) = nI 48 from rfl, ltI (by omega) (by omega)]; exact l48)]
          unfold f0_item_b132
          simp only [letv]
          have hfine : f7_step fT1 AT 4 = 0 := by
            show upd fT1 3 (fT1 3 + 1) 4 = 0
            rw [upd_n (by decide)]; exact hC1.2.2.1
          have rep : ∀ A2, f0_repeat (upd f 1 (nI l + 1)) A2 (f7_step fT1 AT) AT (nI l) (nI t - 1) (nI pos) = some (A2, upd f 1 (nI l + 1), f7_failAt (f7_step fT1 AT) AT 6 (nI pos)) := fun A2 => by
            unfold f0_repeat
            rw [fine_c hfine, if_neg n10, upd_s, nI_s, show (1 : Int32) = nI 1 from rfl, subI t1, subI (by omega), mulI, addI, show l + 1 - l = 1 by omega, if_neg (show ¬ nI (l + 1 + 1 * (t - 1)) ≤ 48 by rw [show (48 : Int32) = nI 48 from rfl, leI (by omega) (by omega)]; omega)]
            rfl
          rw [h1, rep, Option.bind_some]
          refine ⟨_, _, f7_failAt (f7_step fT1 AT) AT 6 (nI pos), B, g', rfl, S0_flt r1 vr, ?_, BFf⟩
          have e1 : f7_step fT1 AT = upd fT1 3 (fT1 3 + 1) := rfl
          rw [fail_c hfine]
          rw [fail_c hC1.2.2.1] at w2
          obtain ⟨w21, w22, w23⟩ := w2
          refine ⟨?_, ?_, ?_⟩
          · rw [upd_n (by decide), upd_s]; decide
          · rw [upd_n (by decide), upd_s, upd_s, w22, upd_n (by decide), upd_s, upd_s]
          · rw [upd_n (by decide), upd_n (by decide), e1, upd_n (by decide)]; exact hC1.1.2
        · rw [if_neg (show ¬ nI l < 48 by rw [show (48 : Int32) = nI 48 from rfl, ltI (by omega) (by omega)]; exact l48)]
          exact ⟨A, f, _, B, g', rfl, S0_flt r1 vr, w2, BFf⟩
      replace h48 : l + t ≤ 48 := Classical.not_not.mp h48
      rw [if_pos (show nI l < 48 by rw [show (48 : Int32) = nI 48 from rfl, ltI (by omega) (by omega)]; omega)]
      rw [addI, if_pos (show nI (l + t) ≤ 48 by rw [show (48 : Int32) = nI 48 from rfl, leI (by omega) (by omega)]; exact h48)] at vr
      unfold f10_readsStep_b190 at vr
      simp only [letv] at vr
      rw [if_neg (nI_in (show l < 48 by omega) (by decide)), ux_nI (by omega), upd_n (show (35 : Nat) ≠ 9 by decide), f351, nI_s, upd_s, show nI (l + 1) - 1 = nI l from subI (a := l + 1) (b := 1) (by omega)] at vr
      unfold f0_item_b132
      simp only [letv]
      rw [h1, put_nI (by omega) (by decide), nI_s]
      have hC2 : CUR n (pos1 + 1) (f7_step fT1 AT) (upd (upd g1 9 (g1 9 + 1)) 35 (nI (l + 1))) := (hC1.step hlt1).congr (upd_n (by decide)) (upd_n (by decide))
      have hS2 : STP (l + 1) (updA A 0 (upd (A 0) l v) 0) (updA B 31 (upd (B 31) l v) 31) := by
        rw [updA_s, updA_s]
        refine ⟨by omega, fun y hy => ?_⟩
        by_cases e : y = l
        · subst e; rw [upd_s, upd_s]; exact ⟨rfl, hv⟩
        · rw [upd_n e, upd_n e]; exact hS.2 y (by omega)
      have BF2 : BFR op (updA B 31 (upd (B 31) l v)) B (upd (upd g1 9 (g1 9 + 1)) 35 (nI (l + 1))) g := BFR.trans (B' := B) (g' := g1) ⟨fun j a b c d => updA_n a, fun j ii a b c => by rw [updA_n (by omega)], fun j a b c d e f => by rw [upd_n c, upd_n a]⟩ BF1
      rcases repeat_c (f := upd f 1 (nI (l + 1))) (A := updA A 0 (upd (A 0) l v)) (AT := AT) (B := updA B 31 (upd (B 31) l v)) (fr := l) (times := t) (first := nI pos) hC2 hS2 upd_s upd_s (by omega) t1 t9 with ⟨A6, f6, fT6, B6, g6, v1, v2, v3, v4⟩ | ⟨A6, f6, B6, g6, l6, v1, v2, v3, v4, v5, v6, v7, v8, v9⟩
      · left
        rw [v2, Option.bind_some, if_pos rfl] at vr
        rw [v1, Option.bind_some]
        exact ⟨A6, f6, fT6, B6, g6, rfl, S0_flt r1 vr, v3, (v4.mono (Nat.zero_le _)).trans (BF2.mono (Nat.zero_le _))⟩
      · right
        rw [v2, Option.bind_some, if_neg n10] at vr
        rw [v1, Option.bind_some]
        have hNF := NF_ge
        refine ⟨A6, f6, f7_step fT1 AT, B6, g6, pos1 + 1, l6, NF, k + 1, rfl, ?_, v3, by omega, by omega, v6, v7, v8, by rw [v4, upd_n (by decide), upd_n (by decide)]; exact f361, (v9.mono hop).trans BF2, by omega, by omega, fun h => absurd h (by decide)⟩
        unfold S0 S2
        rw [r1, Option.bind_some, vr]
