theorem sums_all {n bs : Nat} {b : Nat → Nat} {AT : Nat → Nat → Int32} (hn : n ≤ 240) : ∀ q p d, p + q = 6 → 3 * (q + 1) ≤ d → FAC n b AT 3 1 d bs p := by
  intro q
  induction q with
  | zero =>
    intro p d h hd
    obtain ⟨d, rfl⟩ : ∃ e, d = e + 3 := ⟨d - 3, by omega⟩
    exact sum_c hn (term_c hn (factor_c hn (by omega) fun h => absurd h (by omega)))
  | succ q ih =>
    intro p d h hd
    obtain ⟨d, rfl⟩ : ∃ e, d = e + 3 := ⟨d - 3, by omega⟩
    exact sum_c hn (term_c hn (factor_c hn (by omega) fun _ => ih (p + 1) d (by omega) (by omega)))
/-- a sum, as the reference reads it by itself -/
def SRES (n m0 s0 p pos0 : Nat) (op0 vl0 c lo : Nat → Nat) (A0 B0 : Nat → Nat → Int32) (f0 g0 : Nat → Int32) (P : Option ((Nat → Nat → Int32) × (Nat → Int32) × (Nat → Int32))) (Q : Option (Int32 × (Nat → Nat → Int32) × (Nat → Int32))) : Prop :=
  (∃ A f fT B g, P = some (A, f, fT) ∧ Q = some (0, B, g) ∧ FLT fT g ∧ LFR B B0 g g0) ∨
  (∃ A f fT B g pos m op vl, P = some (A, f, fT) ∧ Q = some (1, B, g) ∧ CUR n pos fT g ∧ pos0 < pos ∧ LOR m op vl A f ∧ MOR m op vl B g ∧ STK s0 c lo B g ∧ (∀ j, j < m0 → op j = op0 j ∧ vl j = vl0 j) ∧ g 13 = nI p ∧ m + pos0 ≤ m0 + pos ∧ (∃ z, WF op vl z true m0 m) ∧ (∀ j, m0 ≤ j → j < m → op j ≤ 12 ∧ vl j < 1048576) ∧ LFR B B0 g g0 ∧ CFR A A0 f f0)
theorem readsSum_c {n d s p m pos : Nat} {b op vl c lo : Nat → Nat} {AT A B : Nat → Nat → Int32} {f fT g : Nat → Int32} (hn : n ≤ 240) (hp : p ≤ 6) (hd : 3 * (7 - p) ≤ d) (hX : TXT n b AT B) (hC : CUR n pos fT g) (hLo : LOR m op vl A f) (hM : MOR m op vl B g) (hS : STK s c lo B g) (h13 : g 13 = nI p) (hm : m ≤ pos) (hs : s ≤ pos) (ht : s = 0 ∨ 6 < c (s - 1)) : SRES n m s p pos op vl c lo A B f g (f2_anyOf_rec d 3 f A fT AT (nI p)) (f10_readsSum g B) := by
  have hNF := NF_ge
  have hpn := hC.2.2.2.2.2
  have e : f10_readsSum g B = SF (nI s) NF NF B g := by
    rw [← hS.1]; rfl
  rw [e]
  rcases sums_all (bs := s) hn (6 - p) p d (by omega) (by omega) m s pos NF NF op vl c lo A B f fT g hX hC hLo hM hS h13 hm hs (Nat.le_refl _) (fun _ => by omega) (by omega) (by omega) with h | ⟨A3, f3, fT3, B3, g3, pos3, mr3, q3, k3, op3, vl3, c3, lo3, z1, z2, z3, z5, z6⟩
  · exact Or.inl h
  obtain ⟨hC3, hp3, hk3, hLo3, hM3, hS3, ⟨-, -, hq3, hP3⟩, hop3, hst3, h133, hmp3, hw3, hbd3, hlf3, hcf3⟩ := z3
  have hX3 : TXT n b AT B3 := hX.congr (hlf3.1 7 (by decide) (by decide))
  have hpn3 := hC3.2.2.2.2.2
  obtain ⟨k3, rfl⟩ : ∃ j, k3 = j + 1 := ⟨k3 - 1, by omega⟩
  have e14 : f10_readsSum_l14 (k3 + 1) B3 g3 (nI s) = f10_readsSum_b14 (f10_readsSum_l14 k3) B3 g3 (nI s) := rfl
  obtain ⟨y1, y2, y3⟩ := z5 (by decide)
  obtain ⟨y4, y5⟩ := z6 rfl
  have hop : f10_hasOpenSum g3 B3 (nI s) = some 0 := by
    rcases hasOpen_c (bs := s) hS3 (by omega) (by omega) with ⟨⟨i, i1, i2, i3⟩, -⟩ | ⟨-, ho⟩
    · obtain ⟨-, a2, -⟩ := hP3 (i - s) (by omega)
      rw [show s + (i - s) = i by omega, i3] at a2
      exact absurd a2 (by decide)
    · exact ho
  obtain ⟨B4, g4, r1, r2, r3, r4, r5⟩ := close_c (L := 1) (s := s) (op := op3) (vl := vl3) (c := c3) (lo := lo3) (by decide) (by omega) (by
    rcases ht with ht | ht
    · exact Or.inl ht
    · rcases Nat.eq_zero_or_pos s with q | q
      · exact Or.inl q
      · rw [(hst3 (s - 1) (by omega)).1]; exact Or.inr (by omega)) q3 mr3 NF B3 g3 (by omega) hq3 (by omega) hM3 hS3 hP3
  have r1' : f10_closesSums g3 B3 1 = some (B4, g4) := r1
  have e138 : f10_readsSum_b138 B3 g3 (nI s) = some (1, B4, g4) := by
    unfold f10_readsSum_b138
    rw [hop, Option.bind_some, if_pos rfl, r1', Option.bind_some]
  rw [z1, z2, e14]
  unfold f10_readsSum_b14
  rw [here_c hX3 hC3, Option.bind_some, Option.bind_some, sign_n y4 y5 y1 y2 y3, if_pos rfl, hop, Option.bind_some, if_pos rfl, e138, ite_self]
  right
  refine ⟨A3, f3, fT3, B4, g4, pos3, mr3 + q3, op3, vl3, rfl, rfl, hC3.congr (r5 9 (by decide) (by decide)) (r5 10 (by decide) (by decide)), hp3, hLo3, r2, r3.congr (fun j hj => ?_) rfl rfl, hop3, (r5 13 (by decide) (by decide)).trans h133, by omega, hw3, hbd3, LFR.trans (B' := B3) (g' := g3) ⟨fun j a _ => r4 j a, fun j a1 a2 a3 a4 a5 a6 => r5 j a5 a6⟩ hlf3, hcf3⟩
  exact ⟨(hst3 j hj).1.symm, (hst3 j hj).2.symm⟩
/-! CONDITIONS -/
/-- jumps that wait for where they go to -/
def PJ (L q m s : Nat) (op vl vr c lo : Nat → Nat) : Prop := q ≤ 1 + L ∧ (∀ j, j < m → (∀ i, i < q → lo (s + i) ≠ j) → vr j = vl j) ∧ (∀ j, j < m → vr j < 1048576 ∧ op j ≤ 12) ∧ ∀ i, i < q → (c (s + i) = 11 ∨ L = 1 ∧ c (s + i) = 12) ∧ lo (s + i) < m ∧ vl (lo (s + i)) = m
theorem land_c {L s m : Nat} {op vl c lo : Nat → Nat} (hL : L ≤ 1) (hs : s ≤ 250) (hm : m ≤ 250) (ht : s = 0 ∨ ¬ (c (s - 1) = 11 ∨ L = 1 ∧ c (s - 1) = 12)) : ∀ (q K : Nat) (vr : Nat → Nat) (B : Nat → Nat → Int32) (g : Nat → Int32), q < K → MOR m op vr B g → STK (s + q) c lo B g → PJ L q m s op vl vr c lo → ∃ B' g', f10_lands_l0 (nI L) K B g = some (B', g') ∧ MOR m op vl B' g' ∧ STK s c lo B' g' ∧ (∀ j, j ≠ 18 → B' j = B j) ∧ ∀ j, j ≠ 15 → g' j = g j := by
  have ea : ∀ K B g, f10_lands_l0 (nI L) (K + 1) B g = f10_lands_b0 (nI L) (f10_lands_l0 (nI L) K) B g := fun _ _ _ => rfl
  intro q
  induction q with
  | zero =>
    intro K vr B g hK hM hS hP
    obtain ⟨K, rfl⟩ : ∃ j, K = j + 1 := ⟨K - 1, by omega⟩
    refine ⟨B, g, ?_, hM.congr (fun j hj => ⟨rfl, (hP.2.1 j hj fun i h => absurd h (by omega)).symm⟩) rfl rfl, hS, fun _ _ => rfl, fun _ _ => rfl⟩
    rw [ea]
    unfold f10_lands_b0
    rcases Nat.eq_zero_or_pos s with h0 | h0
    · subst h0
      rw [top_0 hS, Option.bind_some, if_neg (show ¬ (-1 : Int32) = 11 by decide), Option.bind_some, if_neg (show ¬ (-1 : Int32) = 12 by decide), ite_self]
    · obtain ⟨t, rfl⟩ : ∃ t, s = t + 1 := ⟨s - 1, by omega⟩
      have hu := (hS.2 t (by omega)).2.1
      rw [Nat.add_sub_cancel] at ht
      rw [top_c hS (by omega), Option.bind_some, if_neg (show ¬ nI (c t) = 11 by rw [show (11 : Int32) = nI 11 from rfl, eqI (by omega) (by omega)]; omega)]
      rcases (show L = 0 ∨ L = 1 by omega) with rfl | rfl
      · rw [if_pos (show nI 0 = (0 : Int32) from rfl)]
      · rw [if_neg (show ¬ nI 1 = 0 by decide), Option.bind_some, if_neg (show ¬ nI (c t) = 12 by rw [show (12 : Int32) = nI 12 from rfl, eqI (by omega) (by omega)]; omega)]
  | succ q ih =>
    intro K vr B g hK hM hS hP
    obtain ⟨K, rfl⟩ : ∃ j, K = j + 1 := ⟨K - 1, by omega⟩
    obtain ⟨P1, P2, P3, P4⟩ := hP
    obtain ⟨p1, p2, p3⟩ := P4 q (by omega)
    obtain ⟨s1, s2, s3⟩ := hS.2 (s + q) (by omega)
    obtain ⟨v1, v2⟩ := P3 (lo (s + q)) p2
    have htop := top_c (s := s + q) hS (by omega)
    have step : f10_lands_l0 (nI L) (K + 1) B g = f10_lands_l0 (nI L) K (updA B 18 (upd (B 18) (lo (s + q)) (nI (1048576 * op (lo (s + q)) + m)))) (upd g 15 (nI (s + q))) := by
      have e22 : f10_lands_b22 (nI L) (f10_lands_l0 (nI L) K) B g = f10_lands_l0 (nI L) K (updA B 18 (upd (B 18) (lo (s + q)) (nI (1048576 * op (lo (s + q)) + m)))) (upd g 15 (nI (s + q))) := by
        unfold f10_lands_b22
        have e1 : irm (gx (B 19) (nI (s + q))) 1048576 = nI (lo (s + q)) := by
          rw [gx_nI (by omega), s1, show (1048576 : Int32) = nI 1048576 from rfl, irmI (by omega) (by decide) (by decide)]
          congr 1
          omega
        rw [hS.1, show nI (s + (q + 1)) - 1 = nI (s + q) from subI (a := s + q + 1) (b := 1) (by omega), if_neg (nI_in (show s + q < 260 by omega) (by decide)), e1, if_neg (nI_in (show lo (s + q) < 260 by omega) (by decide)), if_neg (nI_in (show lo (s + q) < 260 by omega) (by decide)), gx_nI (by omega), ux_nI (by omega), hM.2 _ p2, hM.1, show (1048576 : Int32) = nI 1048576 from rfl, divI (by omega) (by decide) (by decide), mulI, addI, show (1048576 * op (lo (s + q)) + vr (lo (s + q))) / 1048576 = op (lo (s + q)) by omega]
        rfl
      rw [ea]
      unfold f10_lands_b0
      rw [htop, Option.bind_some, Option.bind_some, e22]
      rcases p1 with h | ⟨h, h'⟩
      · rw [if_pos (show nI (c (s + q)) = 11 by rw [h]; rfl)]
      · rw [if_neg (show ¬ nI (c (s + q)) = 11 by rw [h']; decide), if_neg (show ¬ nI L = 0 by rw [h]; decide), if_pos (show nI (c (s + q)) = 12 by rw [h']; rfl)]
    obtain ⟨B', g', r1, r2, r3, r4, r5⟩ := ih K (pt vr (lo (s + q)) m) (updA B 18 (upd (B 18) (lo (s + q)) (nI (1048576 * op (lo (s + q)) + m)))) (upd g 15 (nI (s + q))) (by omega) ⟨(upd_n (by decide)).trans hM.1, fun j hj => by
      rw [updA_s]
      by_cases e : j = lo (s + q)
      · subst e; rw [upd_s, pt_s]
      · rw [upd_n e, pt_n e]; exact hM.2 j hj⟩ ⟨upd_s, fun i hi => by rw [updA_n (by decide)]; exact hS.2 i (by omega)⟩ ⟨by omega, fun j hj hno => by
      by_cases e : j = lo (s + q)
      · subst e; rw [pt_s]; exact p3.symm
      · rw [pt_n e]
        refine P2 j hj fun i hi => ?_
        by_cases e2 : i = q
        · subst e2; exact fun h => e h.symm
        · exact hno i (by omega), fun j hj => by
      refine ⟨?_, (P3 j hj).2⟩
      by_cases e : j = lo (s + q)
      · subst e; rw [pt_s]; omega
      · rw [pt_n e]; exact (P3 j hj).1, fun i hi => P4 i (by omega)⟩
    rw [step]
    exact ⟨B', g', r1, r2, r3, fun j a => (r4 j a).trans (updA_n a), fun j a => (r5 j a).trans (upd_n a)⟩
