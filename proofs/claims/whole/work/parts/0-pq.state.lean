/-! the state within an HOUR: bd bounds the wages -/
def RSb (T hr : Nat) (bd : Nat → Nat) (fs : Nat → Int32) (As : Nat → Nat → Int32) (An : Nat → Int32) : Prop :=
  (∀ p, p < 16 → (∃ v, v ≤ 99 ∧ As 0 p = nI v ∧ An p = nI v) ∧ (∃ v, v ≤ 999 ∧ As 1 p = nI v ∧ An (16 + p) = nI v) ∧ (∃ v, v ≤ 99 ∧ As 2 p = nI v ∧ An (32 + p) = nI v)) ∧
  (hr ≤ 9999 ∧ fs 8 = nI hr ∧ An 74 = nI hr ∧ ∀ c, c < 8 → ∃ v, v ≤ bd c ∧ As 4 c = nI v ∧ An (64 + c) = nI v) ∧
  (∃ v, v ≤ 999999 ∧ fs 6 = nI v ∧ An 72 = nI v) ∧ (∃ v, v ≤ 9999 ∧ fs 7 = nI v ∧ An 73 = nI v) ∧ (∃ v, v < 65536 ∧ fs 9 = nI v ∧ An 75 = nI v)
/-- who is told (F) and where he is (w) -/
def MEN (T F : Nat) (w : Nat → Nat) (fs : Nat → Int32) (As : Nat → Nat → Int32) (An : Nat → Int32) : Prop :=
  F < 256 ∧ fs 5 = nI F ∧ ∀ c, c < 8 → An (48 + c) = (if F.testBit c then 1 else 0) ∧ w c < 16 ∧ As 3 c = nI (w c) ∧ An (56 + c) = nI (w c) ∧ (F.testBit c = true → T.testBit (w c) = true)
theorem RS.split {T : Nat} {fs : Nat → Int32} {As : Nat → Nat → Int32} {An : Nat → Int32} (h : RS T fs As An) : ∃ hr F w, RSb T hr (fun _ => 99 * hr) fs As An ∧ MEN T F w fs As An := by
  obtain ⟨h1, ⟨F, hF, e5, h2⟩, ⟨hr, h3, h4, h5, h6⟩, h7, h8, h9⟩ := h
  refine ⟨hr, F, fun c => if q : c < 8 then (h2 c q).2.choose else 0, ⟨h1, ⟨h3, h4, h5, h6⟩, h7, h8, h9⟩, hF, e5, fun c hc => ?_⟩
  have := (h2 c hc).2.choose_spec
  simp only [dif_pos hc]
  exact ⟨(h2 c hc).1, this.1, this.2.1, this.2.2.1, this.2.2.2⟩
theorem RS.join {T hr F : Nat} {w bd : Nat → Nat} {fs : Nat → Int32} {As : Nat → Nat → Int32} {An : Nat → Int32} (h : RSb T hr bd fs As An) (g : MEN T F w fs As An) (hb : ∀ c, c < 8 → bd c ≤ 99 * hr) : RS T fs As An := by
  obtain ⟨h1, ⟨h3, h4, h5, h6⟩, h7, h8, h9⟩ := h
  obtain ⟨g1, g2, g3⟩ := g
  refine ⟨h1, ⟨F, g1, g2, fun c hc => ?_⟩, ⟨hr, h3, h4, h5, fun c hc => ?_⟩, h7, h8, h9⟩
  · obtain ⟨a1, a2, a3, a4, a5⟩ := g3 c hc
    exact ⟨a1, w c, a2, a3, a4, a5⟩
  · obtain ⟨v, v1, v2, v3⟩ := h6 c hc
    exact ⟨v, Nat.le_trans v1 (hb c hc), v2, v3⟩
theorem MEN.congr {T F : Nat} {w : Nat → Nat} {fs fs' : Nat → Int32} {As As' : Nat → Nat → Int32} {An An' : Nat → Int32} (h : MEN T F w fs As An) (h5 : fs' 5 = fs 5) (h3 : As' 3 = As 3) (hn : ∀ j, 48 ≤ j → j < 64 → An' j = An j) : MEN T F w fs' As' An' := by
  obtain ⟨g1, g2, g3⟩ := h
  refine ⟨g1, h5.trans g2, fun c hc => ?_⟩
  obtain ⟨a1, a2, a3, a4, a5⟩ := g3 c hc
  exact ⟨(hn _ (by omega) (by omega)).trans a1, a2, by rw [h3]; exact a3, (hn _ (by omega) (by omega)).trans a4, a5⟩
theorem MEN.walk {T F : Nat} {w : Nat → Nat} {fs : Nat → Int32} {As : Nat → Nat → Int32} {An : Nat → Int32} (h : MEN T F w fs As An) {c q : Nat} (hc : c < 8) (hq : q < 16) (hT : T.testBit q = true) : MEN T F (fun d => if d = c then q else w d) fs (updA As 3 (upd (As 3) c (nI q))) (upd An (56 + c) (nI q)) := by
  obtain ⟨g1, g2, g3⟩ := h
  refine ⟨g1, g2, fun d hd => ?_⟩
  obtain ⟨a1, a2, a3, a4, a5⟩ := g3 d hd
  refine ⟨(upd_n (by omega)).trans a1, ?_⟩
  show (if d = c then q else w d) < 16 ∧ updA As 3 (upd (As 3) c (nI q)) 3 d = nI (if d = c then q else w d) ∧ upd An (56 + c) (nI q) (56 + d) = nI (if d = c then q else w d) ∧ (F.testBit d = true → T.testBit (if d = c then q else w d) = true)
  rw [updA_s]
  by_cases e : d = c
  · subst e
    rw [if_pos rfl, upd_s, upd_s]
    exact ⟨hq, rfl, rfl, fun _ => hT⟩
  · rw [if_neg e, upd_n e, upd_n (by omega)]
    exact ⟨a2, a3, a4, a5⟩
theorem RSb.walk {T hr : Nat} {bd : Nat → Nat} {fs : Nat → Int32} {As : Nat → Nat → Int32} {An : Nat → Int32} (h : RSb T hr bd fs As An) {c : Nat} (hc : c < 8) (x y : Int32) : RSb T hr bd fs (updA As 3 (upd (As 3) c x)) (upd An (56 + c) y) := by
  obtain ⟨h1, ⟨h3, h4, h5, h6⟩, ⟨d, d1, d2, d3⟩, ⟨e, e1, e2, e3⟩, ⟨f, f1, f2, f3⟩⟩ := h
  refine ⟨fun p hp => ?_, ⟨h3, h4, (upd_n (by omega)).trans h5, fun c' hc' => ?_⟩, ⟨d, d1, d2, (upd_n (by omega)).trans d3⟩, ⟨e, e1, e2, (upd_n (by omega)).trans e3⟩, ⟨f, f1, f2, (upd_n (by omega)).trans f3⟩⟩
  · rw [updA_n (by decide), updA_n (by decide), updA_n (by decide), upd_n (by omega), upd_n (by omega), upd_n (by omega)]
    exact h1 p hp
  · rw [updA_n (by decide), upd_n (by omega)]
    exact h6 c' hc'
theorem RSb.since {T hr : Nat} {bd : Nat → Nat} {fs : Nat → Int32} {As : Nat → Nat → Int32} {An : Nat → Int32} (h : RSb T hr bd fs As An) {q v : Nat} (hq : q < 16) (hv : v ≤ 99) : RSb T hr bd fs (updA As 2 (upd (As 2) q (nI v))) (upd An (32 + q) (nI v)) := by
  obtain ⟨h1, ⟨h3, h4, h5, h6⟩, ⟨d, d1, d2, d3⟩, ⟨e, e1, e2, e3⟩, ⟨f, f1, f2, f3⟩⟩ := h
  refine ⟨fun p hp => ?_, ⟨h3, h4, (upd_n (by omega)).trans h5, fun c' hc' => ?_⟩, ⟨d, d1, d2, (upd_n (by omega)).trans d3⟩, ⟨e, e1, e2, (upd_n (by omega)).trans e3⟩, ⟨f, f1, f2, (upd_n (by omega)).trans f3⟩⟩
  · obtain ⟨a1, a2, a3⟩ := h1 p hp
    rw [updA_n (by decide), updA_n (by decide), upd_n (by omega), upd_n (by omega), updA_s]
    refine ⟨a1, a2, ?_⟩
    by_cases e : p = q
    · subst e
      exact ⟨v, hv, upd_s, upd_s⟩
    · rw [upd_n e, upd_n (by omega)]
      exact a3
  · rw [updA_n (by decide), upd_n (by omega)]
    exact h6 c' hc'
theorem RSb.pay {T hr : Nat} {bd bd' : Nat → Nat} {fs : Nat → Int32} {As : Nat → Nat → Int32} {An : Nat → Int32} (h : RSb T hr bd fs As An) {c v : Nat} (hc : c < 8) (hv : v ≤ bd' c) (hb : ∀ d, d ≠ c → bd d ≤ bd' d) : RSb T hr bd' fs (updA As 4 (upd (As 4) c (nI v))) (upd An (64 + c) (nI v)) := by
  obtain ⟨h1, ⟨h3, h4, h5, h6⟩, ⟨d, d1, d2, d3⟩, ⟨e, e1, e2, e3⟩, ⟨f, f1, f2, f3⟩⟩ := h
  refine ⟨fun p hp => ?_, ⟨h3, h4, (upd_n (by omega)).trans h5, fun c' hc' => ?_⟩, ⟨d, d1, d2, (upd_n (by omega)).trans d3⟩, ⟨e, e1, e2, (upd_n (by omega)).trans e3⟩, ⟨f, f1, f2, (upd_n (by omega)).trans f3⟩⟩
  · rw [updA_n (by decide), updA_n (by decide), updA_n (by decide), upd_n (by omega), upd_n (by omega), upd_n (by omega)]
    exact h1 p hp
  · rw [updA_s]
    by_cases e : c' = c
    · subst e
      exact ⟨v, hv, upd_s, upd_s⟩
    · rw [upd_n e, upd_n (by omega)]
      obtain ⟨u, u1, u2, u3⟩ := h6 c' hc'
      exact ⟨u, Nat.le_trans u1 (hb c' e), u2, u3⟩
theorem RSb.mono {T hr : Nat} {bd bd' : Nat → Nat} {fs : Nat → Int32} {As : Nat → Nat → Int32} {An : Nat → Int32} (h : RSb T hr bd fs As An) (hb : ∀ d, d < 8 → bd d ≤ bd' d) : RSb T hr bd' fs As An := by
  obtain ⟨h1, ⟨h3, h4, h5, h6⟩, h7⟩ := h
  refine ⟨h1, ⟨h3, h4, h5, fun c hc => ?_⟩, h7⟩
  obtain ⟨u, u1, u2, u3⟩ := h6 c hc
  exact ⟨u, Nat.le_trans u1 (hb c hc), u2, u3⟩
theorem RSb.lot {T hr : Nat} {bd : Nat → Nat} {fs : Nat → Int32} {As : Nat → Nat → Int32} {An : Nat → Int32} (h : RSb T hr bd fs As An) {v : Nat} (hv : v < 65536) : RSb T hr bd (upd fs 9 (nI v)) As (upd An 75 (nI v)) := by
  obtain ⟨h1, ⟨h3, h4, h5, h6⟩, ⟨d, d1, d2, d3⟩, ⟨e, e1, e2, e3⟩, ⟨f, f1, f2, f3⟩⟩ := h
  refine ⟨fun p hp => ?_, ⟨h3, (upd_n (by omega)).trans h4, (upd_n (by omega)).trans h5, fun c' hc' => ?_⟩, ⟨d, d1, (upd_n (by omega)).trans d2, (upd_n (by omega)).trans d3⟩, ⟨e, e1, (upd_n (by omega)).trans e2, (upd_n (by omega)).trans e3⟩, ⟨v, hv, upd_s, upd_s⟩⟩
  · rw [upd_n (by omega), upd_n (by omega), upd_n (by omega)]
    exact h1 p hp
  · rw [upd_n (by omega)]
    exact h6 c' hc'
theorem RSb.crime {T hr : Nat} {bd : Nat → Nat} {fs : Nat → Int32} {As : Nat → Nat → Int32} {An : Nat → Int32} (h : RSb T hr bd fs As An) {u v : Nat} (hu : u ≤ 9999) (hv : v ≤ 999999) : RSb T hr bd (upd (upd fs 7 (nI u)) 6 (nI v)) As (upd (upd An 73 (nI u)) 72 (nI v)) := by
  obtain ⟨h1, ⟨h3, h4, h5, h6⟩, ⟨d, d1, d2, d3⟩, ⟨e, e1, e2, e3⟩, ⟨f, f1, f2, f3⟩⟩ := h
  refine ⟨fun p hp => ?_, ⟨h3, ?_, ?_, fun c' hc' => ?_⟩, ⟨v, hv, upd_s, upd_s⟩, ⟨u, hu, ?_, ?_⟩, ⟨f, f1, ?_, ?_⟩⟩
  · rw [upd_n (by omega), upd_n (by omega), upd_n (by omega), upd_n (by omega), upd_n (by omega), upd_n (by omega)]
    exact h1 p hp
  · rw [upd_n (by omega), upd_n (by omega)]; exact h4
  · rw [upd_n (by omega), upd_n (by omega)]; exact h5
  · rw [upd_n (by omega), upd_n (by omega)]
    exact h6 c' hc'
  · rw [upd_n (by omega), upd_s]
  · rw [upd_n (by omega), upd_s]
  · rw [upd_n (by omega), upd_n (by omega)]; exact f2
  · rw [upd_n (by omega), upd_n (by omega)]; exact f3
theorem RSb.hour {T hr : Nat} {bd : Nat → Nat} {fs : Nat → Int32} {As : Nat → Nat → Int32} {An : Nat → Int32} (h : RSb T hr bd fs As An) (hh : hr < 9999) : RSb T (hr + 1) bd (upd fs 8 (nI (hr + 1))) As (upd An 74 (nI (hr + 1))) := by
  obtain ⟨h1, ⟨h3, h4, h5, h6⟩, ⟨d, d1, d2, d3⟩, ⟨e, e1, e2, e3⟩, ⟨f, f1, f2, f3⟩⟩ := h
  refine ⟨fun p hp => ?_, ⟨by omega, upd_s, upd_s, fun c' hc' => ?_⟩, ⟨d, d1, (upd_n (by omega)).trans d2, (upd_n (by omega)).trans d3⟩, ⟨e, e1, (upd_n (by omega)).trans e2, (upd_n (by omega)).trans e3⟩, ⟨f, f1, (upd_n (by omega)).trans f2, (upd_n (by omega)).trans f3⟩⟩
  · rw [upd_n (by omega), upd_n (by omega), upd_n (by omega)]
    exact h1 p hp
  · rw [upd_n (by omega)]
    exact h6 c' hc'
/-! THE LAW: is a place safe, what does it say -/
def LAWR (fL : Nat → Int32) (AL : Nat → Nat → Int32) (g : Nat → Int32) (B : Nat → Nat → Int32) : Prop := RLaw (fL 9) (g 17) AL (B 24) (B 25) (B 26) (B 27) (B 28)
theorem LAWR.congr {fL fL' g g' : Nat → Int32} {AL AL' B B' : Nat → Nat → Int32} (h : LAWR fL AL g B) (h9 : fL' 9 = fL 9) (hA : ∀ j, j < 6 → AL' j = AL j) (hg : g' 17 = g 17) (hB : ∀ j, 24 ≤ j → j < 29 → B' j = B j) : LAWR fL' AL' g' B' := by
  unfold LAWR RLaw at *
  rw [h9, hg, hB 24 (by decide) (by decide), hB 25 (by decide) (by decide), hB 26 (by decide) (by decide), hB 27 (by decide) (by decide), hB 28 (by decide) (by decide), hA 0 (by decide), hA 1 (by decide), hA 2 (by decide), hA 3 (by decide), hA 4 (by decide), hA 5 (by decide)]
  exact h
theorem safe_c {fL g : Nat → Int32} {AL B : Nat → Nat → Int32} {X : Nat → Int32} (h : LAWR fL AL g B) (hX : ∀ i, i < 8 → X i = B 30 i) : ∃ r A' f' B', f2_isSafe fL AL 8 X = some (r, A', f') ∧ f10_holdsAny g B 115 = some (r, B') ∧ (∀ j, j ≠ 6 → A' j = AL j) ∧ (∀ j, j ≠ 8 → f' j = fL j) ∧ (∀ j, j ≠ 29 → B' j = B j) := by
  have h0 := h
  obtain ⟨k, op, vl, k1, k2, k3, hr⟩ := h
  unfold f2_isSafe f10_holdsAny
  have key := loop_rel (fun n (s : (Nat → Nat → Int32) × (Nat → Int32) × Int32) => f2_isSafe_l2 8 X n s.1 s.2.1 s.2.2) (fun n (s : (Nat → Nat → Int32) × Int32) => f10_holdsAny_l2 g 115 n s.1 s.2) k
    (fun j s t => s.2.2 = nI j ∧ t.2 = nI j ∧ (∀ i, i ≠ 6 → s.1 i = AL i) ∧ (∀ i, i ≠ 8 → s.2.1 i = fL i) ∧ (∀ i, i ≠ 29 → t.1 i = B i))
    (fun a b => ∃ r A' f' B', a = some (r, A', f') ∧ b = some (r, B') ∧ (∀ j, j ≠ 6 → A' j = AL j) ∧ (∀ j, j ≠ 8 → f' j = fL j) ∧ (∀ j, j ≠ 29 → B' j = B j)) (by omega) (by
      rintro n m j ⟨A1, f1, _⟩ ⟨B1, _⟩ hj ⟨rfl, rfl, p1, p2, p3⟩
      replace p1 : ∀ i, i ≠ 6 → A1 i = AL i := p1
      replace p2 : ∀ i, i ≠ 8 → f1 i = fL i := p2
      replace p3 : ∀ i, i ≠ 29 → B1 i = B i := p3
      have q9 : f1 9 = nI k := (p2 9 (by decide)).trans k2
      simp (maxSteps := 3000000) (disch := omega) only [f2_isSafe_l2, f2_isSafe_b2, f10_holdsAny_l2, f10_holdsAny_b2, litI, letv, eqI, leI, ltI, addI, mulI, subI, clI, addneg, at_nI, put_nI, nI_s, orI, shl1I, ifb0, ifb1, Option.bind_some, gx, ux, Nat.add_zero, Nat.zero_add, Nat.not_lt_zero, false_or, or_false, Nat.mul_zero, Nat.zero_mul, q9, k3]
      by_cases hjk : k ≤ j
      · left
        simp (maxSteps := 3000000) (disch := omega) only [if_pos hjk]
        exact ⟨_, _, _, _, rfl, rfl, p1, p2, p3⟩
      obtain ⟨z, a, b, e, hz, z1, z2, a1, a2, b1, b2, e1, e2, hab, hbe, he, w1, ⟨N, w2⟩, hE⟩ := hr j (by omega)
      have c2 : A1 2 = AL 2 := p1 2 (by decide)
      have c4 : A1 4 = AL 4 := p1 4 (by decide)
      have c5 : A1 5 = AL 5 := p1 5 (by decide)
      have d25 : B1 25 = B 25 := p3 25 (by decide)
      have d27 : B1 27 = B 27 := p3 27 (by decide)
      have d28 : B1 28 = B 28 := p3 28 (by decide)
      simp (maxSteps := 3000000) (disch := omega) only [if_neg hjk, litI, letv, eqI, leI, ltI, addI, mulI, subI, clI, addneg, at_nI, put_nI, nI_s, orI, shl1I, ifb0, ifb1, Option.bind_some, gx, ux, Nat.add_zero, Nat.zero_add, Nat.not_lt_zero, false_or, or_false, Nat.mul_zero, Nat.zero_mul, if_neg, c2, c4, c5, d25, d27, d28, z1, z2, b1, b2, e1, e2]
      by_cases hz5 : z = 115
      · subst hz5
        have hE' : EV op vl X A1 B1 b e := ⟨fun i i1 i2 => by
          rw [p1 0 (by decide), p1 1 (by decide), p3 24 (by decide)]
          exact hE i (by omega) i2, fun i hi => by rw [p3 30 (by decide)]; exact hX i hi⟩
        obtain ⟨r, A2, f2, B2, r1, r2, r3, r4, r5, r6⟩ := ev_all (g := g) (f := f1) he w2 hE'
        simp (maxSteps := 3000000) (disch := omega) only [litI, letv, eqI, leI, ltI, addI, mulI, subI, clI, addneg, at_nI, put_nI, nI_s, orI, shl1I, ifb0, ifb1, Option.bind_some, gx, ux, Nat.add_zero, Nat.zero_add, Nat.not_lt_zero, false_or, or_false, Nat.mul_zero, Nat.zero_mul, if_true, r1, r2]
        rcases r3 rfl with rfl | rfl
        · right
          simp (maxSteps := 3000000) (disch := omega) only [litI, letv, eqI, leI, ltI, addI, mulI, subI, clI, addneg, at_nI, put_nI, nI_s, orI, shl1I, ifb0, ifb1, Option.bind_some, gx, ux, Nat.add_zero, Nat.zero_add, Nat.not_lt_zero, false_or, or_false, Nat.mul_zero, Nat.zero_mul, if_true, if_neg, if_pos]
          exact ⟨by omega, (_, _, _), (_, _), rfl, rfl, rfl, rfl, fun i hi => (r4 i hi).trans (p1 i hi), fun i hi => (r6 i hi).trans (p2 i hi), fun i hi => (r5 i hi).trans (p3 i hi)⟩
        · left
          simp (maxSteps := 3000000) (disch := omega) only [litI, letv, eqI, leI, ltI, addI, mulI, subI, clI, addneg, at_nI, put_nI, nI_s, orI, shl1I, ifb0, ifb1, Option.bind_some, gx, ux, Nat.add_zero, Nat.zero_add, Nat.not_lt_zero, false_or, or_false, Nat.mul_zero, Nat.zero_mul, if_true, if_neg, if_pos]
          exact ⟨_, _, _, _, rfl, rfl, fun i hi => (r4 i hi).trans (p1 i hi), fun i hi => (r6 i hi).trans (p2 i hi), fun i hi => (r5 i hi).trans (p3 i hi)⟩
      · right
        have hz6 : z < 200 := by omega
        simp (maxSteps := 3000000) (disch := omega) only [litI, letv, eqI, leI, ltI, addI, mulI, subI, clI, addneg, at_nI, put_nI, nI_s, orI, shl1I, ifb0, ifb1, Option.bind_some, gx, ux, Nat.add_zero, Nat.zero_add, Nat.not_lt_zero, false_or, or_false, Nat.mul_zero, Nat.zero_mul, if_neg hz5]
        exact ⟨by omega, (_, _, _), (_, _), rfl, rfl, rfl, rfl, p1, p2, p3⟩) (AL, fL, nI 0) (B, nI 0) ⟨rfl, rfl, fun _ _ => rfl, fun _ _ => rfl, fun _ _ => rfl⟩
  exact key
theorem clamp_c (x : Int32) {M : Nat} (hM : M < 2147483648) : f9_clamp x (nI 0) (nI M) = if nI 0 ≤ x then (if x ≤ nI M then x else nI M) else nI 0 := by
  unfold f9_clamp
  show (if nI 0 < (if nI M < x then nI M else x) then (if nI M < x then nI M else x) else nI 0) = _
  have h0 : nI 0 ≤ nI M := by rw [leI (by omega) hM]; omega
  by_cases h : nI 0 ≤ x
  · rw [if_pos h]
    by_cases k : x ≤ nI M
    · have k' : ¬ nI M < x := Int32.not_lt.mpr k
      rw [if_pos k, if_neg k']
      by_cases u : nI 0 < x
      · rw [if_pos u]
      · rw [if_neg u]
        exact Int32.le_antisymm h (Int32.not_lt.mp u)
    · have k' : nI M < x := Int32.not_le.mp k
      rw [if_neg k, if_pos k']
      by_cases u : nI 0 < nI M
      · rw [if_pos u]
      · rw [if_neg u]
        exact Int32.le_antisymm h0 (Int32.not_lt.mp u)
  · have h' : x < nI 0 := Int32.not_le.mp h
    have k' : ¬ nI M < x := fun q => h (Int32.le_of_lt (Int32.lt_of_le_of_lt h0 q))
    rw [if_neg h, if_neg k', if_neg (fun q => h (Int32.le_of_lt q))]
theorem rate_c {fL g : Nat → Int32} {AL B : Nat → Nat → Int32} {X : Nat → Int32} (h : LAWR fL AL g B) (hX : ∀ i, i < 8 → X i = B 30 i) {z0 M : Nat} (hz0 : z0 = 119 ∨ z0 = 114) (hM : M < 2147483648) : ∃ r A' f' B', f2_rate fL AL 8 X (nI z0) (nI M) = some (nI r, A', f') ∧ r ≤ M ∧ f10_byLaw g B (nI z0) (nI M) = some (nI r, B') ∧ (∀ j, j ≠ 6 → A' j = AL j) ∧ (∀ j, j ≠ 8 → f' j = fL j) ∧ (∀ j, j ≠ 29 → B' j = B j) := by
  have h0 := h
  obtain ⟨k, op, vl, k1, k2, k3, hr⟩ := h
  unfold f2_rate f10_byLaw
  have key := loop_rel (fun n (s : (Nat → Nat → Int32) × (Nat → Int32) × Int32) => f2_rate_l3 8 X (nI z0) (nI M) n s.1 s.2.1 s.2.2) (fun n (s : (Nat → Nat → Int32) × Int32) => f10_byLaw_l2 g (nI z0) (nI M) n s.1 s.2) k
    (fun j s t => s.2.2 = nI j ∧ t.2 = nI j ∧ (∀ i, i ≠ 6 → s.1 i = AL i) ∧ (∀ i, i ≠ 8 → s.2.1 i = fL i) ∧ (∀ i, i ≠ 29 → t.1 i = B i))
    (fun a b => ∃ r A' f' B', a = some (nI r, A', f') ∧ r ≤ M ∧ b = some (nI r, B') ∧ (∀ j, j ≠ 6 → A' j = AL j) ∧ (∀ j, j ≠ 8 → f' j = fL j) ∧ (∀ j, j ≠ 29 → B' j = B j)) (by omega) (by
      rintro n m j ⟨A1, f1, _⟩ ⟨B1, _⟩ hj ⟨rfl, rfl, p1, p2, p3⟩
      replace p1 : ∀ i, i ≠ 6 → A1 i = AL i := p1
      replace p2 : ∀ i, i ≠ 8 → f1 i = fL i := p2
      replace p3 : ∀ i, i ≠ 29 → B1 i = B i := p3
      have q9 : f1 9 = nI k := (p2 9 (by decide)).trans k2
      have hb : f10_byLaw_l2 g (nI z0) (nI M) (m + 1) B1 (nI j) = f10_byLaw_b2 g (nI z0) (nI M) (f10_byLaw_l2 g (nI z0) (nI M) m) B1 (nI j) := rfl
      have ha : f2_rate_l3 8 X (nI z0) (nI M) (n + 1) A1 f1 (nI j) = f2_rate_b3 8 X (nI z0) (nI M) (f2_rate_l3 8 X (nI z0) (nI M) n) A1 f1 (nI j) := rfl
      rw [ha, hb]
      generalize f2_rate_l3 8 X (nI z0) (nI M) n = Kn
      generalize f10_byLaw_l2 g (nI z0) (nI M) m = Km
      unfold f10_byLaw_b2 f2_rate_b3
      simp (maxSteps := 3000000) (disch := omega) only [litI, letv, eqI, leI, ltI, addI, mulI, subI, clI, addneg, at_nI, put_nI, nI_s, orI, shl1I, ifb0, ifb1, Option.bind_some, gx, ux, Nat.add_zero, Nat.zero_add, Nat.not_lt_zero, false_or, or_false, Nat.mul_zero, Nat.zero_mul, q9, k3]
      by_cases hjk : k ≤ j
      · left
        simp (maxSteps := 3000000) (disch := omega) only [if_pos hjk]
        exact ⟨0, _, _, _, rfl, by omega, rfl, p1, p2, p3⟩
      obtain ⟨z, a, b, e, hz, z1, z2, a1, a2, b1, b2, e1, e2, hab, hbe, he, w1, ⟨N, w2⟩, hE⟩ := hr j (by omega)
      have c2 : A1 2 = AL 2 := p1 2 (by decide)
      have c4 : A1 4 = AL 4 := p1 4 (by decide)
      have c5 : A1 5 = AL 5 := p1 5 (by decide)
      have d25 : B1 25 = B 25 := p3 25 (by decide)
      have d27 : B1 27 = B 27 := p3 27 (by decide)
      have d28 : B1 28 = B 28 := p3 28 (by decide)
      simp (maxSteps := 3000000) (disch := omega) only [if_neg hjk, litI, letv, eqI, leI, ltI, addI, mulI, subI, clI, addneg, at_nI, put_nI, nI_s, orI, shl1I, ifb0, ifb1, Option.bind_some, gx, ux, Nat.add_zero, Nat.zero_add, Nat.not_lt_zero, false_or, or_false, Nat.mul_zero, Nat.zero_mul, if_neg, c2, c4, c5, d25, d27, d28, z1, z2, b1, b2, e1, e2]
      by_cases hz5 : z = z0
      · subst hz5
        have hE' : EV op vl X A1 B1 b e := ⟨fun i i1 i2 => by
          rw [p1 0 (by decide), p1 1 (by decide), p3 24 (by decide)]
          exact hE i (by omega) i2, fun i hi => by rw [p3 30 (by decide)]; exact hX i hi⟩
        obtain ⟨r, A2, f2, B2, r1, r2, r3, r4, r5, r6⟩ := ev_all (g := g) (f := f1) he w2 hE'
        simp (maxSteps := 3000000) (disch := omega) only [litI, letv, eqI, leI, ltI, addI, mulI, subI, clI, addneg, at_nI, put_nI, nI_s, orI, shl1I, ifb0, ifb1, Option.bind_some, gx, ux, Nat.add_zero, Nat.zero_add, Nat.not_lt_zero, false_or, or_false, Nat.mul_zero, Nat.zero_mul, if_true, r1, r2]
        rcases r3 rfl with rfl | rfl
        · right
          simp (maxSteps := 3000000) (disch := omega) only [litI, letv, eqI, leI, ltI, addI, mulI, subI, clI, addneg, at_nI, put_nI, nI_s, orI, shl1I, ifb0, ifb1, Option.bind_some, gx, ux, Nat.add_zero, Nat.zero_add, Nat.not_lt_zero, false_or, or_false, Nat.mul_zero, Nat.zero_mul, if_true, if_neg, if_pos]
          exact ⟨by omega, (_, _, _), (_, _), rfl, rfl, rfl, rfl, fun i hi => (r4 i hi).trans (p1 i hi), fun i hi => (r6 i hi).trans (p2 i hi), fun i hi => (r5 i hi).trans (p3 i hi)⟩
        · left
          obtain ⟨N', w1'⟩ := w1 (by omega)
          have hE2 : EV op vl X A2 B2 a b := ⟨fun i i1 i2 => by
            rw [r4 0 (by decide), r4 1 (by decide), r5 24 (by decide), p1 0 (by decide), p1 1 (by decide), p3 24 (by decide)]
            exact hE i (by omega) (by omega), fun i hi => by rw [r5 30 (by decide), p3 30 (by decide)]; exact hX i hi⟩
          obtain ⟨x, A3, f3, B3, u1, u2, u3, u4, u5, u6⟩ := ev_all (g := g) (f := f2) (by omega) w1' hE2
          have c3 : A2 3 = AL 3 := (r4 3 (by decide)).trans (p1 3 (by decide))
          have c4' : A2 4 = AL 4 := (r4 4 (by decide)).trans (p1 4 (by decide))
          have d26 : B2 26 = B 26 := (r5 26 (by decide)).trans (p3 26 (by decide))
          have d27' : B2 27 = B 27 := (r5 27 (by decide)).trans (p3 27 (by decide))
          simp (maxSteps := 3000000) (disch := omega) only [litI, letv, eqI, leI, ltI, addI, mulI, subI, clI, addneg, at_nI, put_nI, nI_s, orI, shl1I, ifb0, ifb1, Option.bind_some, gx, ux, Nat.add_zero, Nat.zero_add, Nat.not_lt_zero, false_or, or_false, Nat.mul_zero, Nat.zero_mul, if_true, if_neg, if_pos, c3, c4', d26, d27', a1, a2, b1, b2, u1, u2, clamp_c x hM]
          by_cases v0 : nI 0 ≤ x
          · simp (maxSteps := 3000000) (disch := omega) only [v0, if_true]
            by_cases v1 : x ≤ nI M
            · simp (maxSteps := 3000000) (disch := omega) only [v1, if_true]
              obtain ⟨j', hj', rfl⟩ := nI_of (Int32.not_lt.mpr v0)
              rw [leI hj' hM] at v1
              exact ⟨j', _, _, _, rfl, v1, rfl, fun i hi => (u4 i hi).trans ((r4 i hi).trans (p1 i hi)), fun i hi => (u6 i hi).trans ((r6 i hi).trans (p2 i hi)), fun i hi => (u5 i hi).trans ((r5 i hi).trans (p3 i hi))⟩
            · simp (maxSteps := 3000000) (disch := omega) only [v1, if_false]
              exact ⟨M, _, _, _, rfl, by omega, rfl, fun i hi => (u4 i hi).trans ((r4 i hi).trans (p1 i hi)), fun i hi => (u6 i hi).trans ((r6 i hi).trans (p2 i hi)), fun i hi => (u5 i hi).trans ((r5 i hi).trans (p3 i hi))⟩
          · simp (maxSteps := 3000000) (disch := omega) only [v0, if_false]
            exact ⟨0, _, _, _, rfl, by omega, rfl, fun i hi => (u4 i hi).trans ((r4 i hi).trans (p1 i hi)), fun i hi => (u6 i hi).trans ((r6 i hi).trans (p2 i hi)), fun i hi => (u5 i hi).trans ((r5 i hi).trans (p3 i hi))⟩
      · right
        have hz6 : z < 200 := by omega
        have hz7 : z0 < 200 := by omega
        simp (maxSteps := 3000000) (disch := omega) only [litI, letv, eqI, leI, ltI, addI, mulI, subI, clI, addneg, at_nI, put_nI, nI_s, orI, shl1I, ifb0, ifb1, Option.bind_some, gx, ux, Nat.add_zero, Nat.zero_add, Nat.not_lt_zero, false_or, or_false, Nat.mul_zero, Nat.zero_mul, if_neg hz5]
        exact ⟨by omega, (_, _, _), (_, _), rfl, rfl, rfl, rfl, p1, p2, p3⟩) (AL, fL, nI 0) (B, nI 0) ⟨rfl, rfl, fun _ _ => rfl, fun _ _ => rfl, fun _ _ => rfl⟩
  exact key
