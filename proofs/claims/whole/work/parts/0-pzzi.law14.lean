theorem rules_c {n : Nat} {x : Int32} {b : Nat → Nat} {AT : Nat → Nat → Int32} (hn : n ≤ 240) : ∀ (K u j r m pos : Nat) (op vl : Nat → Nat) (A B : Nat → Nat → Int32) (f fT g : Nat → Int32), 242 ≤ K + u → u < 240 → u ≤ pos → 500 < j + pos → TXT n b AT B → CUR n pos fT g → m ≤ pos → RU r m op vl A f B g →
    (∃ A' f' fT' B' g', f2_read_l14 AT K A f fT 1 (nI u) = some (A', f', fT') ∧ ((f10_readsRule g B).bind fun q => f10_law_l31 x j q.2.1 q.2.2 q.1) = f10_law_b71 x B' g' 0 ∧ FLT fT' g' ∧ RFR B' B g' g) ∨
    (∃ A' f' fT' B' g' r' m' op' vl', f2_read_l14 AT K A f fT 1 (nI u) = some (A', f', fT') ∧ ((f10_readsRule g B).bind fun q => f10_law_l31 x j q.2.1 q.2.2 q.1) = f10_law_b71 x B' g' 1 ∧ fT' 4 = 0 ∧ fT' 1 = 0 ∧ m' ≤ 240 ∧ RU r' m' op' vl' A' f' B' g' ∧ RFR B' B g' g) := by
  intro K
  induction K with
  | zero => intro u j r m pos op vl A B f fT g h1 h2; omega
  | succ K IH =>
    intro u j r m pos op vl A B f fT g hK hu hup hj hX hC hm hR
    have hpn := hC.2.2.2.2.2
    obtain ⟨j, rfl⟩ : ∃ i, j = i + 1 := ⟨j - 1, by omega⟩
    have ea : ∀ K A f fT w u, f2_read_l14 AT (K + 1) A f fT w u = f2_read_b14 AT (f2_read_l14 AT K) A f fT w u := fun _ _ _ _ _ _ => rfl
    have eb : ∀ j B g w, f10_law_l31 x (j + 1) B g w = f10_law_b31 x (f10_law_l31 x j) B g w := fun _ _ _ _ => rfl
    have stop : ∀ A f fT u, f2_read_l14 AT K A f fT 0 u = some (A, f, fT) := by
      intro A f fT u
      obtain ⟨K', rfl⟩ : ∃ j, K = j + 1 := ⟨K - 1, by omega⟩
      rw [ea]
      unfold f2_read_b14
      rw [if_pos rfl]
    have stop2 : ∀ j B g, f10_law_l31 x (j + 1) B g 0 = f10_law_b71 x B g 0 := by
      intro j B g
      rw [eb]
      unfold f10_law_b31
      rw [if_pos rfl]
    rw [ea]
    unfold f2_read_b14
    rw [if_neg n10, if_neg (show ¬ 240 ≤ nI u by rw [show (240 : Int32) = nI 240 from rfl, leI (by omega) (by omega)]; omega)]
    rcases rule_c hn hX hC hm hR with ⟨A2, f2, fT2, B2, g2, y1, y2, y3, y4⟩ | ⟨A2, f2, fT2, B2, g2, pos2, m2, op2, vl2, y1, y2, hC2, hp2, hm2, hR2, hrf2⟩
    · left
      have eg : f7_goesOn fT2 AT = some (0, fT2) := goesOn_dead y3.1
      rw [y1, Option.bind_some, eg, Option.bind_some, stop, y2, Option.bind_some, stop2]
      exact ⟨A2, f2, fT2, B2, g2, rfl, rfl, y3, y4⟩
    · have hX2 : TXT n b AT B2 := hX.congr (hrf2.1 7 (by omega))
      have hpn2 := hC2.2.2.2.2.2
      rw [y1, Option.bind_some, y2, Option.bind_some, eb]
      unfold f10_law_b31
      rw [if_neg n10, show (1, B2, g2).2.2 9 = nI pos2 from hC2.2.2.2.2.1, show (1, B2, g2).2.2 10 = nI n from hC2.2.2.2.1]
      rcases goesOn_c hX2 hC2 with ⟨h, e⟩ | ⟨h, fT', g', e1, e2, e3, e4⟩ | ⟨h, fT', g', e1, e2, e3, e4⟩
      · right
        rw [e, Option.bind_some, stop, if_pos (show nI n ≤ nI pos2 by rw [leI (by omega) (by omega)]; omega)]
        exact ⟨A2, f2, fT2, B2, g2, r + 1, m2, op2, vl2, rfl, rfl, hC2.2.2.1, hC2.1.2, by omega, hR2, hrf2⟩
      · left
        obtain ⟨j, rfl⟩ : ∃ i, j = i + 1 := ⟨j - 1, by omega⟩
        rw [e1, Option.bind_some, stop, if_neg (show ¬ nI n ≤ nI pos2 by rw [leI (by omega) (by omega)]; omega), e2, Option.bind_some, if_pos rfl, stop2]
        exact ⟨A2, f2, fT', B2, g', rfl, rfl, e3, RFR.trans (B' := B2) (g' := g2) ⟨fun _ _ => rfl, fun j a c d e f l o => e4 j c⟩ hrf2⟩
      · rw [e1, Option.bind_some, if_neg (show ¬ nI n ≤ nI pos2 by rw [leI (by omega) (by omega)]; omega), e2, Option.bind_some, if_neg n10, nI_s]
        have hR3 : RU (r + 1) m2 op2 vl2 A2 f2 B2 g' := by
          obtain ⟨a1, a2, a3, a4, a5, a6, a7⟩ := hR2
          exact ⟨a1, a2, (e4 16 (by decide)).trans a3, a4, a5.congr (fun _ _ => ⟨rfl, rfl⟩) rfl (e4 14 (by decide)), a6, a7⟩
        have back : RFR B2 B g' g := RFR.trans (B' := B2) (g' := g2) ⟨fun _ _ => rfl, fun j a c d e f l o => e4 j a⟩ hrf2
        have flag : (((f10_readsRule g' B2).bind fun q => if q.1 = 0 then f10_law_l31 x j q.2.1 q.2.2 0 else f10_law_l31 x j q.2.1 q.2.2 1)) = (f10_readsRule g' B2).bind fun q => f10_law_l31 x j q.2.1 q.2.2 q.1 := by
          rcases rule_c hn hX2 e3 (by omega) hR3 with ⟨A5, f5, fT5, B5, g5, q1, q2, q3, q4⟩ | ⟨A5, f5, fT5, B5, g5, pos5, m5, op5, vl5, q1, q2, q3, q4⟩
          · rw [q2, Option.bind_some, Option.bind_some, if_pos rfl]
          · rw [q2, Option.bind_some, Option.bind_some, if_neg n10]
        rcases IH (u + 1) j (r + 1) m2 (pos2 + 1) op2 vl2 A2 B2 f2 fT' g' (by omega) (by omega) (by omega) (by omega) hX2 e3 (by omega) hR3 with ⟨A3, f3, fT3, B3, g3, z1, z2, z3, z4⟩ | ⟨A3, f3, fT3, B3, g3, r3, m3, op3, vl3, z1, z2, z3, z4, z5, z6, z7⟩
        · left
          exact ⟨A3, f3, fT3, B3, g3, z1, flag.trans z2, z3, z4.trans back⟩
        · right
          exact ⟨A3, f3, fT3, B3, g3, r3, m3, op3, vl3, z1, flag.trans z2, z3, z4, z5, z6, z7.trans back⟩
