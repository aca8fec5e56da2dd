noncomputable def BT (k : Nat) (B : Nat → Nat → Int32) (g : Nat → Int32) : Option (Int32 × (Nat → Nat → Int32) × (Nat → Int32)) := f10_readsCondition_l40 k B g
noncomputable def LD (j k : Nat) (B : Nat → Nat → Int32) (g : Nat → Int32) : Option (Int32 × (Nat → Nat → Int32) × (Nat → Int32)) := f10_readsCondition_l92 (f10_readsCondition_l40 k) j B g
noncomputable def AE (K j k : Nat) (B : Nat → Nat → Int32) (g : Nat → Int32) : Option (Int32 × (Nat → Nat → Int32) × (Nat → Int32)) := (f10_endsPiece_l0 K B g).bind fun q => LD j k q.1 q.2
def CMID (n L m0 s0 p pos0 : Nat) (op0 vl0 c0 lo0 : Nat → Nat) (A0 B0 : Nat → Nat → Int32) (f0 g0 : Nat → Int32) (A B : Nat → Nat → Int32) (f fT g : Nat → Int32) (pos m q j k : Nat) (op vl vr c lo : Nat → Nat) : Prop :=
  CUR n pos fT g ∧ pos0 < pos ∧ 1000 < j + pos ∧ 1000 < k + pos ∧ LOR m op vl A f ∧ MOR m op vr B g ∧ STK (s0 + q) c lo B g ∧ PJ L q m s0 op vl vr c lo ∧ (∀ j, j < m0 → op j = op0 j ∧ vl j = vl0 j) ∧ (∀ i, i < s0 → c i = c0 i ∧ lo i = lo0 i) ∧ g 13 = nI p ∧ m + pos0 ≤ m0 + pos ∧ (∃ z, WF op vl z false m0 m) ∧ (∀ j, m0 ≤ j → j < m → op j ≤ 12 ∧ vl j < 1048576) ∧ LFR B B0 g g0 ∧ CFR A A0 f f0
def CFLT (B0 : Nat → Nat → Int32) (g0 : Nat → Int32) (P : Option ((Nat → Nat → Int32) × (Nat → Int32) × (Nat → Int32))) (Q : Option (Int32 × (Nat → Nat → Int32) × (Nat → Int32))) : Prop := ∃ A f fT B g, P = some (A, f, fT) ∧ Q = some (0, B, g) ∧ FLT fT g ∧ LFR B B0 g g0
/-- what holds before a condition -/
def CPRE (n : Nat) (b : Nat → Nat) (AT : Nat → Nat → Int32) (m s p pos k : Nat) (op vl c lo : Nat → Nat) (A B : Nat → Nat → Int32) (f fT g : Nat → Int32) : Prop :=
  TXT n b AT B ∧ CUR n pos fT g ∧ LOR m op vl A f ∧ MOR m op vl B g ∧ STK s c lo B g ∧ g 13 = nI p ∧ m ≤ pos ∧ s ≤ pos ∧ (∀ j, j < m → op j ≤ 12 ∧ vl j < 1048576) ∧ 0 < s ∧ 6 < c (s - 1) ∧ 1000 < k + pos
def CTEST (n : Nat) (b : Nat → Nat) (AT : Nat → Nat → Int32) (d p : Nat) : Prop := ∀ (m s pos k : Nat) (op vl c lo : Nat → Nat) (A B : Nat → Nat → Int32) (f fT g : Nat → Int32), CPRE n b AT m s p pos k op vl c lo A B f fT g →
  CFLT B g (f2_anyOf_rec d 2 f A fT AT (nI p)) (BT k B g) ∨ ∃ A' f' fT' B' g' pos' m' K j k' op' vl' c' lo', f2_anyOf_rec d 2 f A fT AT (nI p) = some (A', f', fT') ∧ BT k B g = AE K j k' B' g' ∧ 1000 + p ≤ K ∧ CMID n 0 m s p pos op vl c lo A B f g A' B' f' fT' g' pos' m' 0 j k' op' vl' vl' c' lo'
/-- t: 1 for ALLOF (L = 0), 0 for ANYOF (L = 1) -/
def CANY (n : Nat) (b : Nat → Nat) (AT : Nat → Nat → Int32) (t L d p : Nat) : Prop := ∀ (m s pos k : Nat) (op vl c lo : Nat → Nat) (A B : Nat → Nat → Int32) (f fT g : Nat → Int32), CPRE n b AT m s p pos k op vl c lo A B f fT g → (c (s - 1) = 13 ∨ L = 0 ∧ c (s - 1) = 12) →
  CFLT B g (f2_anyOf_rec d t f A fT AT (nI p)) (BT k B g) ∨ ∃ A' f' fT' B' g' pos' m' q j k' op' vl' vr' c' lo', f2_anyOf_rec d t f A fT AT (nI p) = some (A', f', fT') ∧ BT k B g = LD j k' B' g' ∧ CMID n L m s p pos op vl c lo A B f g A' B' f' fT' g' pos' m' q j k' op' vl' vr' c' lo' ∧ chr n b pos' ≠ 38 ∧ (L = 1 → chr n b pos' ≠ 124)
theorem PJ.zero {L m s : Nat} {op vl c lo : Nat → Nat} (h : ∀ j, j < m → op j ≤ 12 ∧ vl j < 1048576) : PJ L 0 m s op vl vl c lo := ⟨by omega, fun _ _ _ => rfl, fun j hj => ⟨(h j hj).2, (h j hj).1⟩, fun i hi => absurd hi (by omega)⟩
/-- the bounds go on -/
theorem bnd_on {m0 m : Nat} {op0 vl0 op vl : Nat → Nat} (h : ∀ j, j < m0 → op0 j ≤ 12 ∧ vl0 j < 1048576) (e : ∀ j, j < m0 → op j = op0 j ∧ vl j = vl0 j) (k : ∀ j, m0 ≤ j → j < m → op j ≤ 12 ∧ vl j < 1048576) : ∀ j, j < m → op j ≤ 12 ∧ vl j < 1048576 := by
  intro j hj
  by_cases q : j < m0
  · rw [(e j q).1, (e j q).2]; exact h j q
  · exact k j (by omega) hj
/-- a mark is laid on the stack: 10 or 13 -/
theorem opens_c {n m s p pos x : Nat} {b op vl c lo : Nat → Nat} {AT B : Nat → Nat → Int32} {fT g : Nat → Int32} (hX : TXT n b AT B) (hC : CUR n pos fT g) (hM : MOR m op vl B g) (hS : STK s c lo B g) (h13 : g 13 = nI p) (hs : s ≤ 250) (hlt : pos < n) (hp : p < 6) (hx : x ≤ 14) :
    ∃ B' g', f10_opens g B (nI x) = some (1, B', g') ∧ TXT n b AT B' ∧ CUR n (pos + 1) (f7_step fT AT) g' ∧ MOR m op vl B' g' ∧ STK (s + 1) (pt c s x) (pt lo s 0) B' g' ∧ g' 13 = nI (p + 1) ∧ LFR B' B g' g := by
  unfold f10_opens
  rw [h13, if_neg (show ¬ nI p = 6 by rw [show (6 : Int32) = nI 6 from rfl, eqI (by omega) (by omega)]; omega)]
  simp only [letv]
  rw [upd_n (show (15 : Nat) ≠ 13 by decide), hS.1, if_neg (nI_in (show s < 260 by omega) (by decide)), ux_nI (by omega), nI_s, nI_s, upd_n (show (9 : Nat) ≠ 15 by decide), upd_n (show (9 : Nat) ≠ 13 by decide), hC.2.2.2.2.1, nI_s, show (1048576 : Int32) = nI 1048576 from rfl, mulI]
  refine ⟨_, _, rfl, hX.congr (updA_n (by decide)), (hC.step hlt).congr ?_ ?_, hM.congr (fun _ _ => ⟨rfl, rfl⟩) (updA_n (by decide)) ?_, ⟨(upd_n (by decide)).trans upd_s, fun j hj => ?_⟩, ?_, fun j a c => updA_n c, fun j a1 a2 a3 a4 a5 a6 => ?_⟩
  · rw [upd_s, upd_s, hC.2.2.2.2.1, nI_s]
  · rw [upd_n (by decide), upd_n (by decide), upd_n (by decide), upd_n (by decide)]
  · rw [upd_n (by decide), upd_n (by decide), upd_n (by decide)]
  · rw [updA_s]
    by_cases e : j = s
    · subst e; rw [upd_s, pt_s, pt_s]; exact ⟨rfl, hx, by decide⟩
    · rw [upd_n e, pt_n e, pt_n e]; exact hS.2 j (by omega)
  · rw [upd_n (by decide), upd_n (by decide), upd_s]
  · rw [upd_n a1, upd_n a6, upd_n a4]
theorem opens_f {n pos : Nat} {AT B : Nat → Nat → Int32} {fT g : Nat → Int32} {x : Int32} (hC : CUR n pos fT g) (h13 : g 13 = nI 6) : ∃ g', f10_opens g B x = some (0, B, g') ∧ FLT (f7_fail fT AT 5) g' ∧ LFR B B g' g := by
  unfold f10_opens
  rw [h13, if_pos (show nI 6 = (6 : Int32) from rfl)]
  obtain ⟨g', w1, w2, w3⟩ := FLT.mk (g := g) (B := B) (AT := AT) (k := 5) (p := g 9) hC.2.2.1 hC.1.2 (by decide)
  refine ⟨g', wrong_b (P := none) w1, ?_, fun _ _ _ => rfl, fun j a c d e f h => w3 j c⟩
  show FLT (f7_failAt fT AT 5 (fT 3)) g'
  rw [hC.2.1, ← hC.2.2.2.2.1]; exact w2
theorem wrong_f {n pos : Nat} {AT B : Nat → Nat → Int32} {fT g : Nat → Int32} (hC : CUR n pos fT g) : ∃ g', ((f10_wrongAt g B 1 (g 9)).bind fun q => if ¬ (q.1 = 0 ∨ q.1 = 1) then none else some (q.1, B, q.2)) = some (0, B, g') ∧ FLT (f7_fail fT AT 1) g' ∧ LFR B B g' g := by
  obtain ⟨g', w1, w2, w3⟩ := FLT.mk (g := g) (B := B) (AT := AT) (k := 1) (p := g 9) hC.2.2.1 hC.1.2 (by decide)
  refine ⟨g', wrong_b (P := none) w1, ?_, fun _ _ _ => rfl, fun j a c d e f h => w3 j c⟩
  show FLT (f7_failAt fT AT 1 (fT 3)) g'
  rw [hC.2.1, ← hC.2.2.2.2.1]; exact w2
/-- the turns of the end of a piece: one '!', or none -/
theorem ends_0 {s K : Nat} {c lo : Nat → Nat} {B : Nat → Nat → Int32} {g : Nat → Int32} (hS : STK s c lo B g) (h0 : 0 < s) (hs : s < 260) (hc : c (s - 1) ≠ 10) (hK : 0 < K) : f10_endsPiece_l0 K B g = some (B, g) := by
  obtain ⟨t, rfl⟩ : ∃ t, s = t + 1 := ⟨s - 1, by omega⟩
  obtain ⟨K, rfl⟩ : ∃ j, K = j + 1 := ⟨K - 1, by omega⟩
  have hu := (hS.2 t (by omega)).2.1
  rw [Nat.add_sub_cancel] at hc
  show f10_endsPiece_b0 (f10_endsPiece_l0 K) B g = _
  unfold f10_endsPiece_b0
  rw [top_c hS (by omega), Option.bind_some, if_neg (show ¬ nI (c t) = 10 by rw [show (10 : Int32) = nI 10 from rfl, eqI (by omega) (by omega)]; exact hc)]
theorem ends_1 {m s p K j k : Nat} {op vl c lo : Nat → Nat} {B : Nat → Nat → Int32} {g : Nat → Int32} (hM : MOR m op vl B g) (hS : STK (s + 1) c lo B g) (hs : s < 250) (hm : m < 250) (hc : c s = 10) (h13 : g 13 = nI (p + 1)) : ∃ B' g', AE (K + 1) j k B g = AE K j k B' g' ∧ MOR (m + 1) (pt op m 10) (pt vl m 0) B' g' ∧ STK s c lo B' g' ∧ g' 13 = nI p ∧ (∀ j, j ≠ 18 → B' j = B j) ∧ ∀ j, j ≠ 13 → j ≠ 14 → j ≠ 15 → g' j = g j := by
  obtain ⟨e1, e2⟩ := notes_c (o := 10) (v := 0) (hM.congr (fun j hj => ⟨pt_n (by omega), pt_n (by omega)⟩) rfl rfl : MOR m (pt op m 10) (pt vl m 0) B g) (by omega) pt_s pt_s
  have e1' : f10_notes g B 10 0 = some (updA B 18 (upd (B 18) m (nI (1048576 * 10 + 0))), upd g 14 (nI (m + 1))) := e1
  refine ⟨updA B 18 (upd (B 18) m (nI (1048576 * 10 + 0))), upd (upd (upd g 14 (nI (m + 1))) 15 (nI s)) 13 (nI p), ?_, e2.congr (fun _ _ => ⟨rfl, rfl⟩) rfl (by rw [upd_n (by decide), upd_n (by decide)]), ⟨(upd_n (by decide)).trans upd_s, fun i hi => by rw [updA_n (by decide)]; exact hS.2 i (by omega)⟩, upd_s, fun j a => updA_n a, fun j a1 a2 a3 => by rw [upd_n a1, upd_n a3, upd_n a2]⟩
  show (f10_endsPiece_b0 (f10_endsPiece_l0 K) B g).bind _ = _
  unfold f10_endsPiece_b0
  rw [top_c hS (by omega), Option.bind_some, if_pos (show nI (c s) = 10 by rw [hc]; rfl), e1', Option.bind_some]
  simp only [letv]
  rw [upd_n (show (15 : Nat) ≠ 14 by decide), hS.1, show nI (s + 1) - 1 = nI s from subI (a := s + 1) (b := 1) (by omega), upd_n (show (13 : Nat) ≠ 15 by decide), upd_n (show (13 : Nat) ≠ 14 by decide), h13, show nI (p + 1) - 1 = nI p from subI (a := p + 1) (b := 1) (by omega)]
  rfl
