/-! a fault stays, whatever is still read -/
def DEAD (AT : Nat → Nat → Int32) (d t p : Nat) : Prop := ∀ (f : Nat → Int32) (A : Nat → Nat → Int32) (fT : Nat → Int32), fT 4 ≠ 0 → ∃ A' f' fT', f2_anyOf_rec d t f A fT AT (nI p) = some (A', f', fT') ∧ KP fT' fT
theorem opens_k {fT : Nat → Int32} {AT : Nat → Nat → Int32} {p : Nat} (h : fT 4 ≠ 0) (hp : p ≤ 6) : (p < 6 ∧ ∃ fT', f2_opens fT AT (nI p) = some (1, fT') ∧ KP fT' fT) ∨ ∃ fT', f2_opens fT AT (nI p) = some (0, fT') ∧ KP fT' fT := by
  unfold f2_opens
  by_cases q : p < 6
  · left
    rw [if_pos (show nI p < 6 by rw [show (6 : Int32) = nI 6 from rfl, ltI (by omega) (by omega)]; exact q)]
    exact ⟨q, _, rfl, step_k⟩
  · right
    rw [if_neg (show ¬ nI p < 6 by rw [show (6 : Int32) = nI 6 from rfl, ltI (by omega) (by omega)]; exact q)]
    exact ⟨_, rfl, fail_kp h⟩
theorem dead5 {AT : Nat → Nat → Int32} {d p : Nat} (hp : p ≤ 6) (ih : p < 6 → DEAD AT d 3 (p + 1)) : DEAD AT (d + 1) 5 p := by
  intro f A fT h
  show ∃ A' f' fT', f2_factor (f2_anyOf_rec d) f A fT AT (nI p) = some (A', f', fT') ∧ KP fT' fT
  unfold f2_factor
  by_cases q : f7_look fT AT = 91
  · rw [if_pos q]
    rcases opens_k (AT := AT) h hp with ⟨q2, fT1, e, k⟩ | ⟨fT1, e, k⟩
    · rw [e, Option.bind_some, if_neg n10, nI_s]
      obtain ⟨A', f', fT', e2, k2⟩ := ih q2 f A fT1 (k.ne h)
      rw [e2, Option.bind_some, take_dead (k2.ne (k.ne h)), Option.bind_some]
      exact ⟨_, _, _, rfl, k2.trans k⟩
    · rw [e, Option.bind_some, if_pos rfl]
      exact ⟨_, _, _, rfl, k⟩
  rw [if_neg q]
  rcases isDigit_k (f7_look fT AT) with e | e
  · rw [e, Option.bind_some, if_pos rfl]
    by_cases q : f2_letterOf (f7_look fT AT) = -1
    · rw [if_pos q]
      exact ⟨_, _, _, rfl, fail_kp h⟩
    · rw [if_neg q]
      obtain ⟨A', f', e2, -⟩ := order_k f A 2 (f2_letterOf (f7_look fT AT))
      rw [e2, Option.bind_some]
      exact ⟨_, _, _, rfl, step_k⟩
  · rw [e, Option.bind_some, if_neg n10]
    obtain ⟨v, fT', e1, k⟩ := number_k (AT := AT) h
    rw [e1, Option.bind_some]
    obtain ⟨A', f', e2, -⟩ := order_k f A 1 v
    rw [e2, Option.bind_some]
    exact ⟨_, _, _, rfl, k⟩
theorem NF_1 : ∃ N, NF = N + 1 := ⟨NF - 1, by have := NF_ge; omega⟩
theorem term_dead {R : Nat → (Nat → Int32) → (Nat → Nat → Int32) → (Nat → Int32) → (Nat → Nat → Int32) → Int32 → Option ((Nat → Nat → Int32) × (Nat → Int32) × (Nat → Int32))} {AT A : Nat → Nat → Int32} {p i : Int32} {K : Nat} {f fT : Nat → Int32} (h : fT 4 ≠ 0) : f2_term_l8 R AT p (K + 1) A f fT i = some (A, f, fT) := by
  show f2_term_b8 R AT p (f2_term_l8 R AT p K) A f fT i = _
  unfold f2_term_b8
  rw [fine_n h, if_pos rfl, ite_self]
theorem sum_dead {R : Nat → (Nat → Int32) → (Nat → Nat → Int32) → (Nat → Int32) → (Nat → Nat → Int32) → Int32 → Option ((Nat → Nat → Int32) × (Nat → Int32) × (Nat → Int32))} {AT A : Nat → Nat → Int32} {p i : Int32} {K : Nat} {f fT : Nat → Int32} (h : fT 4 ≠ 0) : f2_sum_l8 R AT p (K + 1) A f fT i = some (A, f, fT) := by
  show f2_sum_b8 R AT p (f2_sum_l8 R AT p K) A f fT i = _
  unfold f2_sum_b8
  rw [fine_n h, if_pos rfl, ite_self]
theorem all_dead {R : Nat → (Nat → Int32) → (Nat → Nat → Int32) → (Nat → Int32) → (Nat → Nat → Int32) → Int32 → Option ((Nat → Nat → Int32) × (Nat → Int32) × (Nat → Int32))} {AT A : Nat → Nat → Int32} {p i : Int32} {K : Nat} {f fT : Nat → Int32} (h : fT 4 ≠ 0) : f2_allOf_l8 R AT p (K + 1) A f fT i = some (A, f, fT) := by
  show f2_allOf_b8 R AT p (f2_allOf_l8 R AT p K) A f fT i = _
  unfold f2_allOf_b8
  rw [fine_n h, if_pos rfl, ite_self]
theorem any_dead {R : Nat → (Nat → Int32) → (Nat → Nat → Int32) → (Nat → Int32) → (Nat → Nat → Int32) → Int32 → Option ((Nat → Nat → Int32) × (Nat → Int32) × (Nat → Int32))} {AT A : Nat → Nat → Int32} {p i : Int32} {K : Nat} {f fT : Nat → Int32} (h : fT 4 ≠ 0) : f2_anyOf_l8 R AT p (K + 1) A f fT i = some (A, f, fT) := by
  show f2_anyOf_b8 R AT p (f2_anyOf_l8 R AT p K) A f fT i = _
  unfold f2_anyOf_b8
  rw [fine_n h, if_pos rfl, ite_self]
theorem dead4 {AT : Nat → Nat → Int32} {d p : Nat} (ih : DEAD AT d 5 p) : DEAD AT (d + 1) 4 p := by
  intro f A fT h
  show ∃ A' f' fT', f2_term (f2_anyOf_rec d) f A fT AT (nI p) = some (A', f', fT') ∧ KP fT' fT
  unfold f2_term
  obtain ⟨A', f', fT', e, k⟩ := ih f A fT h
  obtain ⟨N, hN⟩ := NF_1
  rw [e, Option.bind_some, hN, term_dead (k.ne h)]
  exact ⟨_, _, _, rfl, k⟩
theorem dead3 {AT : Nat → Nat → Int32} {d p : Nat} (ih : DEAD AT d 4 p) : DEAD AT (d + 1) 3 p := by
  intro f A fT h
  show ∃ A' f' fT', f2_sum (f2_anyOf_rec d) f A fT AT (nI p) = some (A', f', fT') ∧ KP fT' fT
  unfold f2_sum
  obtain ⟨A', f', fT', e, k⟩ := ih f A fT h
  obtain ⟨N, hN⟩ := NF_1
  rw [e, Option.bind_some, hN, sum_dead (k.ne h)]
  exact ⟨_, _, _, rfl, k⟩
theorem dead1 {AT : Nat → Nat → Int32} {d p : Nat} (ih : DEAD AT d 2 p) : DEAD AT (d + 1) 1 p := by
  intro f A fT h
  show ∃ A' f' fT', f2_allOf (f2_anyOf_rec d) f A fT AT (nI p) = some (A', f', fT') ∧ KP fT' fT
  unfold f2_allOf
  obtain ⟨A', f', fT', e, k⟩ := ih f A fT h
  obtain ⟨N, hN⟩ := NF_1
  rw [e, Option.bind_some, hN, all_dead (k.ne h)]
  exact ⟨_, _, _, rfl, k⟩
theorem dead0 {AT : Nat → Nat → Int32} {d p : Nat} (ih : DEAD AT d 1 p) : DEAD AT (d + 1) 0 p := by
  intro f A fT h
  show ∃ A' f' fT', f2_anyOf (f2_anyOf_rec d) f A fT AT (nI p) = some (A', f', fT') ∧ KP fT' fT
  unfold f2_anyOf
  obtain ⟨A', f', fT', e, k⟩ := ih f A fT h
  obtain ⟨N, hN⟩ := NF_1
  rw [e, Option.bind_some, hN, any_dead (k.ne h)]
  exact ⟨_, _, _, rfl, k⟩
theorem test102_k {AT : Nat → Nat → Int32} {d p : Nat} (ih3 : DEAD AT d 3 p) (A : Nat → Nat → Int32) (f fT : Nat → Int32) (x : Int32) (h : fT 4 ≠ 0) : ∃ A' f' fT', f2_test_b102 (f2_anyOf_rec d) AT (nI p) A f fT x = some (A', f', fT') ∧ KP fT' fT := by
  unfold f2_test_b102
  simp only [letv]
  have ks := step_k (fT := fT) (AT := AT)
  obtain ⟨A1, f1, fT1, e, k⟩ := ih3 f A (f7_step fT AT) (ks.ne h)
  rw [e, Option.bind_some]
  obtain ⟨A2, f2, e2, -⟩ := order_k f1 A1 x 0
  rw [e2, Option.bind_some]
  exact ⟨_, _, _, rfl, k.trans ks⟩
theorem dead2 {AT : Nat → Nat → Int32} {d p : Nat} (hp : p ≤ 6) (ih : p < 6 → DEAD AT d 2 (p + 1) ∧ DEAD AT d 0 (p + 1)) (ih3 : DEAD AT d 3 p) : DEAD AT (d + 1) 2 p := by
  intro f A fT h
  show ∃ A' f' fT', f2_test (f2_anyOf_rec d) f A fT AT (nI p) = some (A', f', fT') ∧ KP fT' fT
  unfold f2_test
  by_cases q : f7_look fT AT = 33
  · rw [if_pos q]
    rcases opens_k (AT := AT) h hp with ⟨q2, fT1, e, k⟩ | ⟨fT1, e, k⟩
    · rw [e, Option.bind_some, if_neg n10, nI_s]
      obtain ⟨A', f', fT', e2, k2⟩ := (ih q2).1 f A fT1 (k.ne h)
      rw [e2, Option.bind_some]
      obtain ⟨A2, f2, e3, -⟩ := order_k f' A' 3 0
      rw [e3, Option.bind_some]
      exact ⟨_, _, _, rfl, k2.trans k⟩
    · rw [e, Option.bind_some, if_pos rfl]
      exact ⟨_, _, _, rfl, k⟩
  rw [if_neg q]
  by_cases q : f7_look fT AT = 40
  · rw [if_pos q]
    rcases opens_k (AT := AT) h hp with ⟨q2, fT1, e, k⟩ | ⟨fT1, e, k⟩
    · rw [e, Option.bind_some, if_neg n10, nI_s]
      obtain ⟨A', f', fT', e2, k2⟩ := (ih q2).2 f A fT1 (k.ne h)
      rw [e2, Option.bind_some, take_dead (k2.ne (k.ne h)), Option.bind_some]
      exact ⟨_, _, _, rfl, k2.trans k⟩
    · rw [e, Option.bind_some, if_pos rfl]
      exact ⟨_, _, _, rfl, k⟩
  rw [if_neg q]
  obtain ⟨A1, f1, fT1, e, k⟩ := ih3 f A fT h
  rw [e, Option.bind_some]
  have t := test102_k ih3 A1 f1 fT1 (f7_look fT1 AT) (k.ne h)
  obtain ⟨A2, f2, fT2, e2, k2⟩ := t
  rw [e2]
  by_cases q1 : f7_look fT1 AT = 60
  · rw [if_pos q1]; exact ⟨_, _, _, rfl, k2.trans k⟩
  by_cases q2 : f7_look fT1 AT = 62
  · rw [if_neg q1, if_pos q2]; exact ⟨_, _, _, rfl, k2.trans k⟩
  by_cases q3 : f7_look fT1 AT = 61
  · rw [if_neg q1, if_neg q2, if_pos q3]; exact ⟨_, _, _, rfl, k2.trans k⟩
  rw [if_neg q1, if_neg q2, if_neg q3]
  exact ⟨_, _, _, rfl, (fail_kp (k.ne h)).trans k⟩
theorem deadS {AT : Nat → Nat → Int32} : ∀ q p d, p + q = 6 → 3 * (q + 1) ≤ d → DEAD AT d 3 p := by
  intro q
  induction q with
  | zero =>
    intro p d h hd
    obtain ⟨d, rfl⟩ : ∃ e, d = e + 3 := ⟨d - 3, by omega⟩
    exact dead3 (dead4 (dead5 (by omega) fun h => absurd h (by omega)))
  | succ q ih =>
    intro p d h hd
    obtain ⟨d, rfl⟩ : ∃ e, d = e + 3 := ⟨d - 3, by omega⟩
    exact dead3 (dead4 (dead5 (by omega) fun _ => ih (p + 1) d (by omega) (by omega)))
theorem deadT {AT : Nat → Nat → Int32} : ∀ q p d, p + q = 6 → 3 * (q + 1) + 1 ≤ d → DEAD AT d 2 p := by
  intro q
  induction q with
  | zero =>
    intro p d h hd
    obtain ⟨d, rfl⟩ : ∃ e, d = e + 1 := ⟨d - 1, by omega⟩
    exact dead2 (by omega) (fun h => absurd h (by omega)) (deadS 0 p d h (by omega))
  | succ q ih =>
    intro p d h hd
    obtain ⟨d, rfl⟩ : ∃ e, d = e + 3 := ⟨d - 3, by omega⟩
    exact dead2 (by omega) (fun _ => ⟨ih (p + 1) (d + 2) (by omega) (by omega), dead0 (dead1 (ih (p + 1) d (by omega) (by omega)))⟩) (deadS (q + 1) p (d + 2) h (by omega))
/-! the orders and the stack -/
def LOR (m : Nat) (op vl : Nat → Nat) (A : Nat → Nat → Int32) (f : Nat → Int32) : Prop := f 7 = nI m ∧ ∀ j, j < m → A 0 j = nI (COP (op j)) ∧ A 1 j = nI (vl j)
def MOR (m : Nat) (op vl : Nat → Nat) (B : Nat → Nat → Int32) (g : Nat → Int32) : Prop := g 14 = nI m ∧ ∀ j, j < m → B 18 j = nI (1048576 * op j + vl j)
def STK (s : Nat) (c lo : Nat → Nat) (B : Nat → Nat → Int32) (g : Nat → Int32) : Prop := g 15 = nI s ∧ ∀ i, i < s → B 19 i = nI (1048576 * c i + lo i) ∧ c i ≤ 14 ∧ lo i < 1048576
def CFR (A' A : Nat → Nat → Int32) (f' f : Nat → Int32) : Prop := (∀ j, j ≠ 0 → j ≠ 1 → A' j = A j) ∧ ∀ j, j ≠ 7 → f' j = f j
def LFR (B' B : Nat → Nat → Int32) (g' g : Nat → Int32) : Prop := (∀ j, j ≠ 18 → j ≠ 19 → B' j = B j) ∧ ∀ j, j ≠ 9 → j ≠ 11 → j ≠ 12 → j ≠ 13 → j ≠ 14 → j ≠ 15 → g' j = g j
theorem CFR.refl {A : Nat → Nat → Int32} {f : Nat → Int32} : CFR A A f f := ⟨fun _ _ _ => rfl, fun _ _ => rfl⟩
theorem CFR.trans {A A' A'' : Nat → Nat → Int32} {f f' f'' : Nat → Int32} (h : CFR A'' A' f'' f') (k : CFR A' A f' f) : CFR A'' A f'' f := ⟨fun j a b => (h.1 j a b).trans (k.1 j a b), fun j a => (h.2 j a).trans (k.2 j a)⟩
theorem LFR.refl {B : Nat → Nat → Int32} {g : Nat → Int32} : LFR B B g g := ⟨fun _ _ _ => rfl, fun _ _ _ _ _ _ _ => rfl⟩
theorem LFR.trans {B B' B'' : Nat → Nat → Int32} {g g' g'' : Nat → Int32} (h : LFR B'' B' g'' g') (k : LFR B' B g' g) : LFR B'' B g'' g := ⟨fun j a b => (h.1 j a b).trans (k.1 j a b), fun j a b c d e f => (h.2 j a b c d e f).trans (k.2 j a b c d e f)⟩
theorem LOR.congr {m : Nat} {op vl op' vl' : Nat → Nat} {A : Nat → Nat → Int32} {f : Nat → Int32} (h : LOR m op vl A f) (e : ∀ j, j < m → op' j = op j ∧ vl' j = vl j) : LOR m op' vl' A f := ⟨h.1, fun j hj => by rw [(e j hj).1, (e j hj).2]; exact h.2 j hj⟩
theorem MOR.congr {m : Nat} {op vl op' vl' : Nat → Nat} {B B' : Nat → Nat → Int32} {g g' : Nat → Int32} (h : MOR m op vl B g) (e : ∀ j, j < m → op' j = op j ∧ vl' j = vl j) (h18 : B' 18 = B 18) (h14 : g' 14 = g 14) : MOR m op' vl' B' g' := ⟨h14.trans h.1, fun j hj => by rw [(e j hj).1, (e j hj).2, h18]; exact h.2 j hj⟩
theorem STK.congr {s : Nat} {c lo c' lo' : Nat → Nat} {B B' : Nat → Nat → Int32} {g g' : Nat → Int32} (h : STK s c lo B g) (e : ∀ j, j < s → c' j = c j ∧ lo' j = lo j) (h19 : B' 19 = B 19) (h15 : g' 15 = g 15) : STK s c' lo' B' g' := ⟨h15.trans h.1, fun j hj => by rw [(e j hj).1, (e j hj).2, h19]; exact h.2 j hj⟩
theorem order_c {m o v : Nat} {op vl : Nat → Nat} {A : Nat → Nat → Int32} {f : Nat → Int32} (h : LOR m op vl A f) (hm : m < 240) (ho : op m = o) (hv : vl m = v) : ∃ A' f', f2_order f A (nI (COP o)) (nI v) = some (nI m, A', f') ∧ LOR (m + 1) op vl A' f' ∧ CFR A' A f' f := by
  obtain ⟨h1, h2⟩ := h
  unfold f2_order
  simp only [letv]
  rw [h1, put_nI (by omega) (by decide), put_nI (by omega) (by decide), upd_s, nI_s, show nI (m + 1) - 1 = nI m from subI (a := m + 1) (b := 1) (by omega), updA_n (show (1 : Nat) ≠ 0 by decide)]
  refine ⟨_, _, rfl, ⟨upd_s, fun j hj => ?_⟩, fun j a b => by rw [updA_n b, updA_n a], fun j a => upd_n a⟩
  rw [updA_n (show (0 : Nat) ≠ 1 by decide), updA_s, updA_s]
  by_cases e : j = m
  · subst e; rw [upd_s, upd_s, ho, hv]; exact ⟨rfl, rfl⟩
  · rw [upd_n e, upd_n e]; exact h2 j (by omega)
theorem notes_c {m o v : Nat} {op vl : Nat → Nat} {B : Nat → Nat → Int32} {g : Nat → Int32} (h : MOR m op vl B g) (hm : m < 260) (ho : op m = o) (hv : vl m = v) : f10_notes g B (nI o) (nI v) = some (updA B 18 (upd (B 18) m (nI (1048576 * o + v))), upd g 14 (nI (m + 1))) ∧ MOR (m + 1) op vl (updA B 18 (upd (B 18) m (nI (1048576 * o + v)))) (upd g 14 (nI (m + 1))) := by
  obtain ⟨h1, h2⟩ := h
  constructor
  · unfold f10_notes
    rw [h1, if_neg (nI_in (show m < 260 by omega) (by decide)), ux_nI (by omega), show (1048576 : Int32) = nI 1048576 from rfl, mulI, addI, nI_s]
    rfl
  · refine ⟨upd_s, fun j hj => ?_⟩
    rw [updA_s]
    by_cases e : j = m
    · subst e; rw [upd_s, ho, hv]
    · rw [upd_n e]; exact h2 j (by omega)
theorem top_c {s : Nat} {c lo : Nat → Nat} {B : Nat → Nat → Int32} {g : Nat → Int32} (h : STK (s + 1) c lo B g) (hs : s < 260) : f10_waitTop g B = some (nI (c s)) := by
  obtain ⟨h1, h2⟩ := h
  obtain ⟨h3, h4, h5⟩ := h2 s (by omega)
  unfold f10_waitTop
  rw [h1, if_neg (show ¬ nI (s + 1) = 0 by rw [show (0 : Int32) = nI 0 from rfl, eqI (by omega) (by omega)]; omega), show nI (s + 1) - 1 = nI s from subI (a := s + 1) (b := 1) (by omega), if_neg (nI_in (show s < 260 by omega) (by decide)), gx_nI (by omega), h3, show (1048576 : Int32) = nI 1048576 from rfl, divI (by omega) (by decide) (by decide)]
  congr 2
  omega
theorem top_0 {c lo : Nat → Nat} {B : Nat → Nat → Int32} {g : Nat → Int32} (h : STK 0 c lo B g) : f10_waitTop g B = some (-1) := by
  unfold f10_waitTop
  rw [h.1, if_pos (show nI 0 = (0 : Int32) from rfl)]
