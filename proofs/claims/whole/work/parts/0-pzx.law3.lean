/-! SUMS: what is not yet noted waits on the stack -/
def pt (f : Nat → Nat) (m v : Nat) : Nat → Nat := fun j => if j = m then v else f j
theorem pt_s {f : Nat → Nat} {m v : Nat} : pt f m v m = v := if_pos rfl
theorem pt_n {f : Nat → Nat} {m v j : Nat} (h : j ≠ m) : pt f m v j = f j := if_neg h
theorem close_c {L s : Nat} {op vl c lo : Nat → Nat} (hL : L ≤ 1) (hs : s ≤ 250) (ht : s = 0 ∨ ((c (s - 1) < 4 ∨ 6 < c (s - 1)) ∧ (L = 1 → c (s - 1) < 2 ∨ 3 < c (s - 1)))) : ∀ (q m K : Nat) (B : Nat → Nat → Int32) (g : Nat → Int32), q < K → q ≤ 2 → m + q ≤ 250 → MOR m op vl B g → STK (s + q) c lo B g → (∀ i, i < q → (4 ≤ c (s + i) ∨ L = 1 ∧ 2 ≤ c (s + i)) ∧ c (s + i) ≤ 6 ∧ op (m + q - 1 - i) = c (s + i) ∧ vl (m + q - 1 - i) = 0) → ∃ B' g', f10_closesSums_l0 (nI L) K B g = some (B', g') ∧ MOR (m + q) op vl B' g' ∧ STK s c lo B' g' ∧ (∀ j, j ≠ 18 → B' j = B j) ∧ ∀ j, j ≠ 14 → j ≠ 15 → g' j = g j := by
  have ea : ∀ K B g, f10_closesSums_l0 (nI L) (K + 1) B g = f10_closesSums_b0 (nI L) (f10_closesSums_l0 (nI L) K) B g := fun _ _ _ => rfl
  intro q
  induction q with
  | zero =>
    intro m K B g hK _ hm hM hS _
    obtain ⟨K, rfl⟩ : ∃ j, K = j + 1 := ⟨K - 1, by omega⟩
    refine ⟨B, g, ?_, hM, hS, fun _ _ => rfl, fun _ _ _ => rfl⟩
    rw [ea]
    unfold f10_closesSums_b0 f10_closesSums_b17
    rcases Nat.eq_zero_or_pos s with h0 | h0
    · subst h0
      rw [top_0 hS, Option.bind_some, if_pos (show (-1 : Int32) < 4 by decide), Option.bind_some, if_neg (show ¬ (-1 : Int32) = 2 by decide), Option.bind_some, if_neg (show ¬ (-1 : Int32) = 3 by decide), ite_self]
    · obtain ⟨t, rfl⟩ : ∃ t, s = t + 1 := ⟨s - 1, by omega⟩
      have hu := (hS.2 t (by omega)).2.1
      rcases ht with ht | ⟨t1, t2⟩
      · omega
      rw [Nat.add_sub_cancel] at t1 t2
      rw [top_c hS (by omega), Option.bind_some, Option.bind_some]
      have fin : (if nI L = 0 then some (B, g) else (if nI (c t) = 2 then f10_closesSums_b37 (nI L) (f10_closesSums_l0 (nI L) K) B g else if nI (c t) = 3 then f10_closesSums_b37 (nI L) (f10_closesSums_l0 (nI L) K) B g else some (B, g))) = some (B, g) := by
        by_cases q : nI L = 0
        · rw [if_pos q]
        · have hL1 : L = 1 := by
            rcases (show L = 0 ∨ L = 1 by omega) with rfl | rfl
            · exact absurd rfl q
            · rfl
          have := t2 hL1
          rw [if_neg q, if_neg (show ¬ nI (c t) = 2 by rw [show (2 : Int32) = nI 2 from rfl, eqI (by omega) (by omega)]; omega), if_neg (show ¬ nI (c t) = 3 by rw [show (3 : Int32) = nI 3 from rfl, eqI (by omega) (by omega)]; omega)]
      rw [Option.bind_some, fin]
      rcases t1 with t1 | t1
      · rw [if_pos (show nI (c t) < 4 by rw [show (4 : Int32) = nI 4 from rfl, ltI (by omega) (by omega)]; exact t1)]
      · rw [if_neg (show ¬ nI (c t) < 4 by rw [show (4 : Int32) = nI 4 from rfl, ltI (by omega) (by omega)]; omega), Option.bind_some, if_neg (show ¬ nI (c t) ≤ 6 by rw [show (6 : Int32) = nI 6 from rfl, leI (by omega) (by omega)]; omega)]
  | succ q ih =>
    intro m K B g hK hq hm hM hS hP
    obtain ⟨K, rfl⟩ : ∃ j, K = j + 1 := ⟨K - 1, by omega⟩
    obtain ⟨p1, p2, p3, p4⟩ := hP q (by omega)
    rw [show m + (q + 1) - 1 - q = m by omega] at p3 p4
    have htop := top_c (s := s + q) hS (by omega)
    obtain ⟨e1, e2⟩ := notes_c hM (by omega) p3 p4
    have step : f10_closesSums_l0 (nI L) (K + 1) B g = f10_closesSums_l0 (nI L) K (updA B 18 (upd (B 18) m (nI (1048576 * c (s + q) + 0)))) (upd (upd g 14 (nI (m + 1))) 15 (nI (s + q))) := by
      rw [ea]
      have e37 : f10_closesSums_b37 (nI L) (f10_closesSums_l0 (nI L) K) B g = f10_closesSums_l0 (nI L) K (updA B 18 (upd (B 18) m (nI (1048576 * c (s + q) + 0)))) (upd (upd g 14 (nI (m + 1))) 15 (nI (s + q))) := by
        unfold f10_closesSums_b37
        rw [htop, Option.bind_some, show (0 : Int32) = nI 0 from rfl, e1, Option.bind_some]
        simp only [letv]
        rw [upd_n (show (15 : Nat) ≠ 14 by decide), hS.1, show nI (s + (q + 1)) - 1 = nI (s + q) from subI (a := s + q + 1) (b := 1) (by omega)]
      unfold f10_closesSums_b0 f10_closesSums_b17
      rw [htop, Option.bind_some, Option.bind_some, Option.bind_some, e37]
      by_cases h4 : c (s + q) < 4
      · have hL1 : L = 1 := by omega
        subst hL1
        rw [if_pos (show nI (c (s + q)) < 4 by rw [show (4 : Int32) = nI 4 from rfl, ltI (by omega) (by omega)]; exact h4), if_neg (show ¬ nI 1 = 0 by decide)]
        rcases (show c (s + q) = 2 ∨ c (s + q) = 3 by omega) with h | h
        · rw [if_pos (show nI (c (s + q)) = 2 by rw [h]; rfl)]
        · rw [if_neg (show ¬ nI (c (s + q)) = 2 by rw [h]; decide), if_pos (show nI (c (s + q)) = 3 by rw [h]; rfl)]
      · rw [if_neg (show ¬ nI (c (s + q)) < 4 by rw [show (4 : Int32) = nI 4 from rfl, ltI (by omega) (by omega)]; exact h4), Option.bind_some, if_pos (show nI (c (s + q)) ≤ 6 by rw [show (6 : Int32) = nI 6 from rfl, leI (by omega) (by omega)]; exact p2)]
    obtain ⟨B', g', r1, r2, r3, r4, r5⟩ := ih (m + 1) K (updA B 18 (upd (B 18) m (nI (1048576 * c (s + q) + 0)))) (upd (upd g 14 (nI (m + 1))) 15 (nI (s + q))) (by omega) (by omega) (by omega) (e2.congr (fun _ _ => ⟨rfl, rfl⟩) rfl (upd_n (by decide))) ⟨upd_s, fun i hi => by rw [updA_n (by decide)]; exact hS.2 i (by omega)⟩ (fun i hi => by
      obtain ⟨a1, a2, a3, a4⟩ := hP i (by omega)
      rw [show m + 1 + q - 1 - i = m + (q + 1) - 1 - i by omega]
      exact ⟨a1, a2, a3, a4⟩)
    rw [step]
    rw [show m + 1 + q = m + (q + 1) by omega] at r2
    exact ⟨B', g', r1, r2, r3, fun j a => (r4 j a).trans (updA_n a), fun j a b => (r5 j a b).trans (by rw [upd_n b, upd_n a])⟩
theorem hasOpen_c {s bs : Nat} {c lo : Nat → Nat} {B : Nat → Nat → Int32} {g : Nat → Int32} (h : STK s c lo B g) (hb : bs ≤ s) (hs : s < 260) : ((∃ i, bs ≤ i ∧ i < s ∧ c i = 14) ∧ f10_hasOpenSum g B (nI bs) = some 1) ∨ ((∀ i, bs ≤ i → i < s → c i ≠ 14) ∧ f10_hasOpenSum g B (nI bs) = some 0) := by
  unfold f10_hasOpenSum
  refine loop_one (fun k (x : Int32) => f10_hasOpenSum_l2 g B (nI bs) k x) (s - bs) (fun j x => x = nI (bs + j) ∧ ∀ i, bs ≤ i → i < bs + j → c i ≠ 14) (fun P => ((∃ i, bs ≤ i ∧ i < s ∧ c i = 14) ∧ P = some 1) ∨ ((∀ i, bs ≤ i → i < s → c i ≠ 14) ∧ P = some 0)) (by omega) ?_ (nI bs) ⟨rfl, fun i a b => by omega⟩
  rintro k j x hj ⟨rfl, hno⟩
  have ea : ∀ k x, f10_hasOpenSum_l2 g B (nI bs) (k + 1) x = f10_hasOpenSum_b2 g B (nI bs) (f10_hasOpenSum_l2 g B (nI bs) k) x := fun _ _ => rfl
  simp only [ea]
  unfold f10_hasOpenSum_b2
  rw [h.1]
  by_cases he : s ≤ bs + j
  · left; right
    rw [if_pos (show nI s ≤ nI (bs + j) by rw [leI (by omega) (by omega)]; exact he)]
    exact ⟨fun i a b => hno i a (by omega), rfl⟩
  obtain ⟨h1, h2, h3⟩ := h.2 (bs + j) (by omega)
  rw [if_neg (show ¬ nI s ≤ nI (bs + j) by rw [leI (by omega) (by omega)]; exact he), if_neg (nI_in (show bs + j < 260 by omega) (by decide)), gx_nI (by omega), h1, show (1048576 : Int32) = nI 1048576 from rfl, divI (by omega) (by decide) (by decide), show (1048576 * c (bs + j) + lo (bs + j)) / 1048576 = c (bs + j) by omega, nI_s]
  by_cases q : c (bs + j) = 14
  · left; left
    rw [if_pos (show nI (c (bs + j)) = 14 by rw [q]; rfl)]
    exact ⟨⟨bs + j, by omega, by omega, q⟩, rfl⟩
  · right
    rw [if_neg (show ¬ nI (c (bs + j)) = 14 by rw [show (14 : Int32) = nI 14 from rfl, eqI (by omega) (by omega)]; exact q)]
    refine ⟨by omega, _, rfl, rfl, fun i a b => ?_⟩
    by_cases e : i = bs + j
    · subst e; exact q
    · exact hno i a (by omega)
theorem sign_c {u : Nat} (h2 : 2 ≤ u) (h6 : u ≤ 6) : f10_sumSign (nI (COP u)) = nI u := by
  rcases (show u = 2 ∨ u = 3 ∨ u = 4 ∨ u = 5 ∨ u = 6 by omega) with rfl | rfl | rfl | rfl | rfl <;> decide
theorem sign_n {x : Int32} (h1 : x ≠ 43) (h2 : x ≠ 45) (h3 : x ≠ 42) (h4 : x ≠ 47) (h5 : x ≠ 37) : f10_sumSign x = -1 := by
  unfold f10_sumSign
  rw [if_neg h1, if_neg h2, if_neg h3, if_neg h4, if_neg h5]
/-- before a factor -/
noncomputable def SF (bs : Int32) (i k : Nat) (B : Nat → Nat → Int32) (g : Nat → Int32) : Option (Int32 × (Nat → Nat → Int32) × (Nat → Int32)) := (f10_readsFactor_l0 i B g).bind fun q => if q.1 = 0 then some (0, q.2.1, q.2.2) else f10_readsSum_l14 k q.2.1 q.2.2 bs
def PEN (L q m s : Nat) (op vl c : Nat → Nat) : Prop := (L = 2 → q = 0) ∧ (L = 0 → q ≤ 1) ∧ q ≤ 2 ∧ ∀ i, i < q → (4 ≤ c (s + i) ∨ L = 1 ∧ 2 ≤ c (s + i)) ∧ c (s + i) ≤ 6 ∧ op (m + q - 1 - i) = c (s + i) ∧ vl (m + q - 1 - i) = 0
def TOP (L s : Nat) (c : Nat → Nat) : Prop := L ≤ 1 → s = 0 ∨ ((c (s - 1) < 4 ∨ 6 < c (s - 1)) ∧ (L = 1 → c (s - 1) < 2 ∨ 3 < c (s - 1)))
/-- in the midst of a sum: what was done since its beginning (the 0s) -/
def MID (n L m0 s0 p pos0 : Nat) (op0 vl0 c0 lo0 : Nat → Nat) (A0 B0 : Nat → Nat → Int32) (f0 g0 : Nat → Int32) (A B : Nat → Nat → Int32) (f fT g : Nat → Int32) (pos mr q k : Nat) (op vl c lo : Nat → Nat) : Prop :=
  CUR n pos fT g ∧ pos0 < pos ∧ 1000 < k + pos ∧ LOR (mr + q) op vl A f ∧ MOR mr op vl B g ∧ STK (s0 + q) c lo B g ∧ PEN L q mr s0 op vl c ∧ (∀ j, j < m0 → op j = op0 j ∧ vl j = vl0 j) ∧ (∀ i, i < s0 → c i = c0 i ∧ lo i = lo0 i) ∧ g 13 = nI p ∧ mr + q + pos0 ≤ m0 + pos ∧ (∃ z, WF op vl z true m0 (mr + q)) ∧ (∀ j, m0 ≤ j → j < mr + q → op j ≤ 12 ∧ vl j < 1048576) ∧ LFR B B0 g g0 ∧ CFR A A0 f f0
def GOT (n : Nat) (b : Nat → Nat) (L bs m0 s0 p pos0 : Nat) (op0 vl0 c0 lo0 : Nat → Nat) (A0 B0 : Nat → Nat → Int32) (f0 g0 : Nat → Int32) (P : Option ((Nat → Nat → Int32) × (Nat → Int32) × (Nat → Int32))) (Q : Option (Int32 × (Nat → Nat → Int32) × (Nat → Int32))) : Prop :=
  (∃ A f fT B g, P = some (A, f, fT) ∧ Q = some (0, B, g) ∧ FLT fT g ∧ LFR B B0 g g0) ∨
  (∃ A f fT B g pos mr q k op vl c lo, P = some (A, f, fT) ∧ Q = f10_readsSum_l14 k B g (nI bs) ∧ MID n L m0 s0 p pos0 op0 vl0 c0 lo0 A0 B0 f0 g0 A B f fT g pos mr q k op vl c lo ∧ (L ≤ 1 → chr n b pos ≠ 42 ∧ chr n b pos ≠ 47 ∧ chr n b pos ≠ 37) ∧ (L = 1 → chr n b pos ≠ 43 ∧ chr n b pos ≠ 45))
def FAC (n : Nat) (b : Nat → Nat) (AT : Nat → Nat → Int32) (t L d bs p : Nat) : Prop := ∀ (m s pos i k : Nat) (op vl c lo : Nat → Nat) (A B : Nat → Nat → Int32) (f fT g : Nat → Int32), TXT n b AT B → CUR n pos fT g → LOR m op vl A f → MOR m op vl B g → STK s c lo B g → g 13 = nI p → m ≤ pos → s ≤ pos → bs ≤ s → TOP L s c → 1000 < i + pos → 1000 < k + pos → GOT n b L bs m s p pos op vl c lo A B f g (f2_anyOf_rec d t f A fT AT (nI p)) (SF (nI bs) i k B g)
/-- a sign is read: what waits is noted, the sign waits -/
theorem push_c {n L m0 s0 p pos0 bs pos mr q k u : Nat} {b op0 vl0 c0 lo0 op vl c lo : Nat → Nat} {A0 B0 A B AT : Nat → Nat → Int32} {f0 g0 f fT g : Nat → Int32} (hn : n ≤ 240) (hL : L ≤ 1) (hX : TXT n b AT B) (h : MID n L m0 s0 p pos0 op0 vl0 c0 lo0 A0 B0 f0 g0 A B f fT g pos mr q (k + 1) op vl c lo) (hm0 : m0 ≤ pos0) (hs0 : s0 ≤ pos0) (ht : TOP L s0 c) (hu : chr n b pos = nI (COP u)) (h2 : 2 ≤ u) (h6 : u ≤ 6) (hLu : (L = 0 ∧ 4 ≤ u) ∨ (L = 1 ∧ u ≤ 3)) :
    ∃ B' g', f10_readsSum_l14 (k + 1) B g (nI bs) = SF (nI bs) NF k B' g' ∧ pos < n ∧ TXT n b AT B' ∧ CUR n (pos + 1) (f7_step fT AT) g' ∧ MOR (mr + q) op vl B' g' ∧ STK (s0 + 1) (pt c s0 u) (pt lo s0 0) B' g' ∧ g' 13 = nI p ∧ LFR B' B g' g := by
  obtain ⟨hC, hp0, hk, hLo, hM, hS, ⟨hP0, hP1, hP2, hP⟩, hop, hst, h13, hmp, ⟨z, hw⟩, hbd, hlf, hcf⟩ := h
  have hC0 := hC
  have hpn := hC0.2.2.2.2.2
  have hNF := NF_ge
  have hlt : pos < n := chr_lt (c := COP u) hu (by rcases (show u = 2 ∨ u = 3 ∨ u = 4 ∨ u = 5 ∨ u = 6 by omega) with rfl | rfl | rfl | rfl | rfl <;> decide)
  obtain ⟨B1, g1, r1, r2, r3, r4, r5⟩ := close_c (lo := lo) hL (by omega) (ht hL) q mr NF B g (by omega) hP2 (by omega) hM hS hP
  have e14 : f10_readsSum_l14 (k + 1) B g (nI bs) = f10_readsSum_b14 (f10_readsSum_l14 k) B g (nI bs) := rfl
  refine ⟨updA B1 19 (upd (B1 19) s0 (nI (1048576 * u))), upd (upd g1 15 (nI (s0 + 1))) 9 (nI (pos + 1)), ?_, hlt, hX.congr ((updA_n (by decide)).trans (r4 7 (by decide))), ?_, r2.congr (fun _ _ => ⟨rfl, rfl⟩) (updA_n (by decide)) (by rw [upd_n (by decide), upd_n (by decide)]), ?_, ?_, ?_⟩
  · rw [e14]
    unfold f10_readsSum_b14
    have e38 : ∀ x : Int32, x = nI L → f10_readsSum_b38 (f10_readsSum_l14 k) B g (nI bs) (nI u) x = SF (nI bs) NF k (updA B1 19 (upd (B1 19) s0 (nI (1048576 * u)))) (upd (upd g1 15 (nI (s0 + 1))) 9 (nI (pos + 1))) := by
      rintro x rfl
      unfold f10_readsSum_b38 f10_closesSums
      rw [r1, Option.bind_some, show (B1, g1).2 15 = nI s0 from r3.1, if_neg (nI_in (show s0 < 260 by omega) (by decide)), ux_nI (by omega), show (1048576 : Int32) = nI 1048576 from rfl, mulI, nI_s]
      simp only [letv]
      rw [upd_n (show (9 : Nat) ≠ 15 by decide), r5 9 (by decide) (by decide), hC0.2.2.2.2.1, nI_s]
      rfl
    rw [here_c hX hC0, Option.bind_some, hu, sign_c h2 h6, if_neg (show ¬ nI u = -1 by rw [show (-1 : Int32) = -nI 1 from rfl, eq_neg (by omega) (by omega) (by omega)]; exact not_false)]
    rcases hLu with ⟨a, a'⟩ | ⟨a, a'⟩
    · rw [if_pos (show 4 ≤ nI u by rw [show (4 : Int32) = nI 4 from rfl, leI (by omega) (by omega)]; exact a')]
      exact e38 0 (by rw [a]; rfl)
    · rw [if_neg (show ¬ 4 ≤ nI u by rw [show (4 : Int32) = nI 4 from rfl, leI (by omega) (by omega)]; omega)]
      exact e38 1 (by rw [a]; rfl)
  · refine (hC0.step hlt).congr ?_ ?_
    · rw [upd_s, upd_s, hC0.2.2.2.2.1, nI_s]
    · rw [upd_n (by decide), upd_n (by decide), upd_n (by decide)]; exact r5 10 (by decide) (by decide)
  · refine ⟨(upd_n (by decide)).trans upd_s, fun i hi => ?_⟩
    rw [updA_s]
    by_cases e : i = s0
    · subst e; rw [upd_s, pt_s, pt_s]; exact ⟨rfl, by omega, by decide⟩
    · rw [upd_n e, pt_n e, pt_n e]; exact r3.2 i (by omega)
  · rw [upd_n (by decide), upd_n (by decide), r5 13 (by decide) (by decide)]; exact h13
  · exact ⟨fun j a c => (updA_n c).trans (r4 j a), fun j a1 a2 a3 a4 a5 a6 => by rw [upd_n a1, upd_n a6, r5 j a5 a6]⟩
/-- the second of two is read, and the class notes the sign -/
theorem join_c {n L L2 m0 s0 p pos0 pos mr q k u pos2 mr2 q2 k2 : Nat} {op0 vl0 c0 lo0 op vl c lo op2 vl2 c2 lo2 : Nat → Nat} {A0 B0 A B B1 A2 B2 : Nat → Nat → Int32} {f0 g0 f fT g g1 f2 fT2 g2 : Nat → Int32} (hn : n ≤ 240) (h : MID n L m0 s0 p pos0 op0 vl0 c0 lo0 A0 B0 f0 g0 A B f fT g pos mr q (k + 1) op vl c lo) (hm0 : m0 ≤ pos0) (hl1 : LFR B1 B g1 g)
    (h' : MID n L2 (mr + q) (s0 + 1) p (pos + 1) op vl (pt c s0 u) (pt lo s0 0) A B1 f g1 A2 B2 f2 fT2 g2 pos2 mr2 q2 k2 op2 vl2 c2 lo2) (h2 : 2 ≤ u) (h6 : u ≤ 6) (hLu : (L = 0 ∧ L2 = 2 ∧ 4 ≤ u) ∨ (L = 1 ∧ L2 = 0 ∧ u ≤ 3)) :
    ∃ A3 f3, f2_order f2 A2 (nI (COP u)) 0 = some (nI (mr2 + q2), A3, f3) ∧ MID n L m0 s0 p pos0 op0 vl0 c0 lo0 A0 B0 f0 g0 A3 B2 f3 fT2 g2 pos2 mr2 (q2 + 1) k2 (pt op2 (mr2 + q2) u) (pt vl2 (mr2 + q2) 0) c2 lo2 := by
  obtain ⟨hC, hp0, hk, hLo, hM, hS, ⟨hP0, hP1, hP2, hP⟩, hop, hst, h13, hmp, ⟨z, hw⟩, hbd, hlf, hcf⟩ := h
  obtain ⟨hC', hp0', hk', hLo', hM', hS', ⟨hP0', hP1', hP2', hP'⟩, hop', hst', h13', hmp', ⟨z', hw'⟩, hbd', hlf', hcf'⟩ := h'
  have hpn := hC'.2.2.2.2.2
  have l1 := WF_lt _ _ _ _ hw
  have l2 := WF_lt _ _ _ _ hw'
  have old : ∀ j, j < mr2 + q2 → pt op2 (mr2 + q2) u j = op2 j ∧ pt vl2 (mr2 + q2) 0 j = vl2 j := fun j hj => ⟨pt_n (by omega), pt_n (by omega)⟩
  obtain ⟨A3, f3, e1, e2, e3⟩ := order_c (o := u) (v := 0) (hLo'.congr old) (by omega) pt_s pt_s
  refine ⟨A3, f3, e1, hC', by omega, hk', e2, hM'.congr (fun j hj => old j (by omega)) rfl rfl, ?_, ⟨by omega, by omega, by omega, fun i hi => ?_⟩, fun j hj => ?_, fun i hi => ?_, h13', by omega, ⟨z + z' + 1, ?_⟩, fun j a c => ?_, (hlf'.trans hl1).trans hlf, (e3.trans hcf').trans hcf⟩
  · rw [show s0 + (q2 + 1) = s0 + 1 + q2 by omega]; exact hS'
  · by_cases e : i = 0
    · subst e
      have ec : c2 s0 = u := by rw [(hst' s0 (by omega)).1, pt_s]
      rw [Nat.add_zero, ec, show mr2 + (q2 + 1) - 1 - 0 = mr2 + q2 by omega, pt_s, pt_s]
      exact ⟨by omega, h6, rfl, rfl⟩
    · obtain ⟨a1, a2, a3, a4⟩ := hP' (i - 1) (by omega)
      rw [show s0 + 1 + (i - 1) = s0 + i by omega] at a1 a2 a3
      rw [show mr2 + q2 - 1 - (i - 1) = mr2 + (q2 + 1) - 1 - i by omega] at a3 a4
      rw [(old _ (by omega)).1, (old _ (by omega)).2]
      exact ⟨by omega, a2, a3, a4⟩
  · rw [(old j (by omega)).1, (old j (by omega)).2, (hop' j (by omega)).1, (hop' j (by omega)).2]; exact hop j hj
  · obtain ⟨a1, a2⟩ := hst' i (by omega)
    rw [a1, a2, pt_n (by omega), pt_n (by omega)]; exact hst i hi
  · right
    refine ⟨mr + q, WF_congr _ _ _ _ (WF_le hw (by omega)) fun j a c => ?_, ?_, ?_, ?_, by omega⟩
    · rw [(old j (by omega)).1, (old j (by omega)).2]; exact hop' j c
    · rw [show mr2 + (q2 + 1) - 1 = mr2 + q2 by omega]
      exact WF_congr _ _ _ _ (WF_le hw' (by omega)) fun j a c => old j c
    · rw [show mr2 + (q2 + 1) - 1 = mr2 + q2 by omega, pt_s]; exact h2
    · rw [show mr2 + (q2 + 1) - 1 = mr2 + q2 by omega, pt_s]; exact h6
  · by_cases e : j = mr2 + q2
    · subst e; rw [pt_s, pt_s]; exact ⟨by omega, by decide⟩
    · rw [(old j (by omega)).1, (old j (by omega)).2]
      by_cases e2 : j < mr + q
      · rw [(hop' j e2).1, (hop' j e2).2]; exact hbd j a e2
      · exact hbd' j (by omega) (by omega)
