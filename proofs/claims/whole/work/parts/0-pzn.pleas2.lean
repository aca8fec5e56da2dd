/-- one LINE: where it ends in a fault, the same one; else what it does is laid up, and done -/
def PFR (B' B : Nat → Nat → Int32) (g' g : Nat → Int32) : Prop := (∀ j, j ≠ 0 → j ≠ 3 → B' j = B j) ∧ ∀ j, j ≠ 9 → j ≠ 11 → j ≠ 12 → j ≠ 39 → g' j = g j
def LOUT (n pos l T : Nat) (f2 fs : Nat → Int32) (X0 : (Nat → Nat → Int32) × (Nat → Nat → Int32)) (B : Nat → Nat → Int32) (g : Nat → Int32) (P : Option ((Nat → Nat → Int32) × (Nat → Int32) × (Nat → Int32))) (Q : Option (Int32 × (Nat → Nat → Int32) × (Nat → Int32))) : Prop :=
  (∃ L' f4' fT' B' g', P = some (L', f4', fT') ∧ Q = some (0, B', g') ∧ FLT fT' g' ∧ PFR B' B g' g) ∨
  (∃ L' f4' fT' B' g' pos', P = some (L', f4', fT') ∧ Q = some (1, B', g') ∧ CUR n pos' fT' g' ∧ pos + 2 ≤ pos' ∧ l < 20 ∧ f4' 3 = nI (l + 1) ∧ g' 39 = nI (l + 1) ∧ SR T f2 fs (gfold f2 L' X0 (l + 1)) B' g' ∧ PFR B' B g' g)
/-- a line is laid up -/
theorem laid_c {A1 A2 L : Nat → Nat → Int32} {f2 f4 fT : Nat → Int32} {p s v : Int32} {l : Nat} {X0 : (Nat → Nat → Int32) × (Nat → Nat → Int32)} (hl : l < 20) (h3 : f4 3 = nI l) : ∃ L' f4', f3_line_b127 A1 f2 A2 L f4 fT p s v = some (L', f4', fT) ∧ f4' 3 = nI (l + 1) ∧ gfold f2 L' X0 (l + 1) = gst f2 p s v (gfold f2 L X0 l) := by
  unfold f3_line_b127
  simp only [letv]
  rw [h3, put_nI hl (by decide), put_nI hl (by decide), put_nI hl (by decide), nI_s]
  refine ⟨_, _, rfl, upd_s, ?_⟩
  have e0 : updA (updA (updA L 0 (upd (L 0) l p)) 1 (upd (updA L 0 (upd (L 0) l p) 1) l s)) 2 (upd (updA (updA L 0 (upd (L 0) l p)) 1 (upd (updA L 0 (upd (L 0) l p) 1) l s) 2) l v) 0 = upd (L 0) l p := by rw [updA_n (by decide), updA_n (by decide), updA_s]
  have e1 : updA (updA (updA L 0 (upd (L 0) l p)) 1 (upd (updA L 0 (upd (L 0) l p) 1) l s)) 2 (upd (updA (updA L 0 (upd (L 0) l p)) 1 (upd (updA L 0 (upd (L 0) l p) 1) l s) 2) l v) 1 = upd (L 1) l s := by rw [updA_n (by decide), updA_s, updA_n (by decide)]
  have e2 : updA (updA (updA L 0 (upd (L 0) l p)) 1 (upd (updA L 0 (upd (L 0) l p) 1) l s)) 2 (upd (updA (updA L 0 (upd (L 0) l p)) 1 (upd (updA L 0 (upd (L 0) l p) 1) l s) 2) l v) 2 = upd (L 2) l v := by rw [updA_s, updA_n (by decide), updA_n (by decide)]
  generalize updA (updA (updA L 0 (upd (L 0) l p)) 1 (upd (updA L 0 (upd (L 0) l p) 1) l s)) 2 (upd (updA (updA L 0 (upd (L 0) l p)) 1 (upd (updA L 0 (upd (L 0) l p) 1) l s) 2) l v) = L' at e0 e1 e2
  show gst f2 (L' 0 l) (L' 1 l) (L' 2 l) (gfold f2 L' X0 l) = _
  rw [e0, e1, e2, upd_s, upd_s, upd_s, gfold_congr l (L := L) (fun k i hi hk => ?_)]
  rcases (show k = 0 ∨ k = 1 ∨ k = 2 by omega) with rfl | rfl | rfl
  · rw [e0, upd_n (by omega)]
  · rw [e1, upd_n (by omega)]
  · rw [e2, upd_n (by omega)]
theorem laid_f {A1 A2 L : Nat → Nat → Int32} {f2 f4 fT : Nat → Int32} {p s v : Int32} : ∃ L' f4', f3_line_b127 A1 f2 A2 L f4 fT p s v = some (L', f4', fT) := ⟨_, _, rfl⟩
theorem wrong_b {P : Option (Int32 × (Nat → Nat → Int32) × (Nat → Int32))} {B : Nat → Nat → Int32} {g g' : Nat → Int32} {k p : Int32} (h : f10_wrongAt g B k p = some (0, g')) : ((f10_wrongAt g B k p).bind fun q => if ¬ (q.1 = 0 ∨ q.1 = 1) then none else some (q.1, B, q.2)) = some (0, B, g') := by
  rw [h, Option.bind_some, if_neg (fun q => q (Or.inl rfl))]
theorem isLetter_v {g : Nat → Int32} {B : Nat → Nat → Int32} {c v : Int32} (h : f10_here g B = some c) (h2 : f10_in (c - 97) 0 15 = v) (hv : v = 0 ∨ v = 1) : f10_isLetter g B = some v := by
  unfold f10_isLetter
  rw [h, Option.bind_some, h2, if_neg (fun q => q hv)]
theorem other_c {n pos T p l : Nat} {b : Nat → Nat} {near s : Int32} {f2 fs f4 fT g : Nat → Int32} {A1 A2 B L : Nat → Nat → Int32} {X0 : (Nat → Nat → Int32) × (Nat → Nat → Int32)} (hX : TXT n b A1 B) (hC : CUR n pos fT g) (hT : T < 65536) (e0 : f2 0 = nI T) (e6 : g 6 = nI T) (hp : p < 16) (hTp : T.testBit p = true) (hl : l < 20) (h3 : f4 3 = nI l) (h39 : g 39 = nI (l + 1)) (hS : SR T f2 fs (gfold f2 L X0 l) B g) (hs : (s = 38 ∧ near = 1) ∨ (s = 47 ∧ near = 0)) :
    (∃ L' f4' fT' B' g', f3_line_b102 A1 f2 A2 L f4 fT (nI p) s = some (L', f4', fT') ∧ f10_readsOther g B (nI p) near = some (0, B', g') ∧ FLT fT' g' ∧ PFR B' B g' g) ∨
    (∃ L' f4' fT' B' g', f3_line_b102 A1 f2 A2 L f4 fT (nI p) s = some (L', f4', fT') ∧ f10_readsOther g B (nI p) near = some (1, B', g') ∧ CUR n (pos + 1) fT' g' ∧ f4' 3 = nI (l + 1) ∧ g' 39 = nI (l + 1) ∧ SR T f2 fs (gfold f2 L' X0 (l + 1)) B' g' ∧ PFR B' B g' g) := by
  unfold f3_line_b102 f3_other f10_readsOther
  rw [tlook_c hX hC, here_c hX hC]
  have flt : ∀ (k v : Int32), k ≠ 0 → (∃ L' f4' fT' B' g', f3_line_b127 A1 f2 A2 L f4 (f7_fail fT A1 k) (nI p) s v = some (L', f4', fT') ∧ ((f10_wrongAt g B k (g 9)).bind fun q => if ¬ (q.1 = 0 ∨ q.1 = 1) then none else some (q.1, B, q.2)) = some (0, B', g') ∧ FLT fT' g' ∧ PFR B' B g' g) := by
    intro k v hk
    obtain ⟨g', w1, w2, w3⟩ := FLT.mk (g := g) (B := B) (AT := A1) (k := k) (p := g 9) hC.2.2.1 hC.1.2 hk
    obtain ⟨L', f4', q⟩ := laid_f (A1 := A1) (A2 := A2) (L := L) (f2 := f2) (f4 := f4) (fT := f7_fail fT A1 k) (p := nI p) (s := s) (v := v)
    refine ⟨L', f4', f7_fail fT A1 k, B, g', q, wrong_b (P := none) w1, ?_, fun _ _ _ => rfl, fun j a b c d => w3 j b⟩
    show FLT (f7_failAt fT A1 k (fT 3)) g'
    rw [hC.2.1, ← hC.2.2.2.2.1]; exact w2
  rcases letter_c hX.2.1 pos with ⟨h1, h2⟩ | ⟨q, hq, h1, h2, h4, h5⟩
  · left
    rw [isLetter_v (here_c hX hC) h2 (Or.inl rfl), Option.bind_some, if_pos rfl, if_pos h1]
    exact flt 1 _ (by decide)
  have hlt := chr_lt h1 (by omega)
  rw [isLetter_v (here_c hX hC) h5 (Or.inr rfl), Option.bind_some, if_neg n10, Option.bind_some, h2, h4, if_neg (show ¬ nI q = -1 by rw [show (-1 : Int32) = -nI 1 from rfl, eq_neg (by omega) (by omega) (by omega)]; exact not_false)]
  by_cases hqp : q = p
  · left
    subst hqp
    rw [if_pos rfl, if_pos rfl]
    exact flt 6 _ (by decide)
  have hqp' : ¬ nI q = nI p := by rw [eqI (by omega) (by omega)]; exact hqp
  rw [if_neg hqp', if_neg hqp', told9 hT e0 hq, told10 hT e6 hq]
  by_cases hTq : ¬ T.testBit q = true
  · left
    rw [if_neg hTq, if_pos (show nI 0 = (0 : Int32) from rfl), if_pos (show nI 0 = (0 : Int32) from rfl)]
    exact flt 7 _ (by decide)
  replace hTq : T.testBit q = true := Classical.not_not.mp hTq
  right
  rw [if_pos hTq, if_neg (show ¬ nI 1 = (0 : Int32) by decide), if_neg (show ¬ nI 1 = (0 : Int32) by decide)]
  simp only [letv, Option.bind_some]
  obtain ⟨⟨nx, hB⟩, hRS⟩ := hS
  obtain ⟨b1, b2, b3, b4, b5, b6, b7⟩ := hB
  have hB : RB T nx (f2 0) (g 6) ((gfold f2 L X0 l).2 1) (B 3) := ⟨b1, b2, b3, b4, b5, b6, b7⟩
  obtain ⟨p1, p2, p3⟩ := b4 p hp
  obtain ⟨q1, q2, q3⟩ := b4 q hq
  have hpq : p ≠ q := fun h => hqp h.symm
  obtain ⟨L', f4', k1, k2, k3⟩ := laid_c (A1 := A1) (A2 := A2) (L := L) (f2 := f2) (f4 := f4) (fT := f7_step fT A1) (p := nI p) (s := s) (v := nI q) (X0 := X0) hl h3
  have hC' := hC.step (AT := A1) hlt
  have ip : ¬ (nI p < 0 ∨ 16 ≤ (nI p).toNatClampNeg) := nI_in hp (by decide)
  have iq : ¬ (nI q < 0 ∨ 16 ≤ (nI q).toNatClampNeg) := nI_in hq (by decide)
  rw [if_neg ip]
  unfold f10_readsOther_b104
  simp only [letv, if_neg ip, if_neg iq]
  rcases hs with ⟨rfl, rfl⟩ | ⟨rfl, rfl⟩
  · rw [if_neg n10, if_neg n10]
    refine ⟨L', f4', f7_step fT A1, _, _, k1, rfl, hC', k2, by rw [upd_n (by decide)]; exact h39, ?_, fun j a c => by rw [updA_n c, updA_n c], fun j a _ _ _ => upd_n a⟩
    rw [k3]
    have eg : gst f2 (nI p) 38 (nI q) (gfold f2 L X0 l) = ((gfold f2 L X0 l).1, f1_join f2 (gfold f2 L X0 l).2 (nI p) (nI q)) := by
      unfold gst; rw [if_pos rfl]
    rw [eg]
    refine ⟨⟨nxj nx p q, ?_⟩, ?_⟩
    · show RB T _ (f2 0) (upd g 9 _ 6) (f1_join f2 (gfold f2 L X0 l).2 (nI p) (nI q) 1) _
      rw [upd_n (by decide)]
      have ej : f1_join f2 (gfold f2 L X0 l).2 (nI p) (nI q) 1 = upd (upd ((gfold f2 L X0 l).2 1) p (nI (nx p ||| 2 ^ q))) q (nI (nx q ||| 2 ^ p)) := by
        unfold f1_join
        simp only [letv]
        rw [updA_s, updA_s, at_nI hp (by decide), at_nI hq (by decide), put_nI hp (by decide), put_nI hq (by decide), upd_n (fun h => hpq h.symm), p1, q1, shl1 (by omega), shl1 (by omega), orI, orI]
      rw [ej, updA_s, updA_s, gx_nI (by omega), gx_nI (by omega), ux_nI (by omega), ux_nI (by omega), upd_n (fun h => hpq h.symm), p2, q2, shl1 (by omega), shl1 (by omega), orI, orI]
      exact hB.join hp hq hpq hTp hTq
    · rw [updA_n (by decide), updA_n (by decide)]; exact hRS
  · rw [if_pos rfl, if_pos rfl]
    refine ⟨L', f4', f7_step fT A1, _, _, k1, rfl, hC', k2, by rw [upd_n (by decide)]; exact h39, ?_, fun j a c => by rw [updA_n c, updA_n c], fun j a _ _ _ => upd_n a⟩
    rw [k3]
    have eg : gst f2 (nI p) 47 (nI q) (gfold f2 L X0 l) = ((gfold f2 L X0 l).1, f1_part f2 (gfold f2 L X0 l).2 (nI p) (nI q)) := by
      unfold gst
      rw [if_neg (by decide), if_neg (by decide), if_neg (by decide), if_neg (by decide)]
    rw [eg]
    refine ⟨⟨nxm nx p q, ?_⟩, ?_⟩
    · show RB T _ (f2 0) (upd g 9 _ 6) (f1_part f2 (gfold f2 L X0 l).2 (nI p) (nI q) 1) _
      rw [upd_n (by decide)]
      have ej : f1_part f2 (gfold f2 L X0 l).2 (nI p) (nI q) 1 = upd (upd ((gfold f2 L X0 l).2 1) p (nI (cut1 (nx p) q))) q (nI (cut1 (nx q) p)) := by
        unfold f1_part
        simp only [letv]
        rw [updA_s, updA_s, at_nI hp (by decide), at_nI hq (by decide), put_nI hp (by decide), put_nI hq (by decide), upd_n (fun h => hpq h.symm), p1, q1, shl1 (by omega), shl1 (by omega), cut_c p3, cut_c q3]
      rw [ej, updA_s, updA_s, gx_nI (by omega), gx_nI (by omega), ux_nI (by omega), ux_nI (by omega), upd_n (fun h => hpq h.symm), p2, q2, shl1 (by omega), shl1 (by omega), cut_c p3, cut_c q3]
      exact hB.part hp hq hpq
    · rw [updA_n (by decide), updA_n (by decide)]; exact hRS
