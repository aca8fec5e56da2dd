/-- an order was refused: nothing more is asked -/
theorem ev_end {X f : Nat → Int32} {k : Nat} {p1 p2 x y z : Int32} {A : Nat → Nat → Int32} (hf : f 8 = 1) : f2_reckoned_l14 8 X p1 p2 (k + 1) A f x y z = some (0, A, f) := by
  show f2_reckoned_b14 8 X p1 p2 (f2_reckoned_l14 8 X p1 p2 k) A f x y z = _
  have hb : f2_reckoned_b261 8 X p1 p2 A f x = some (0, A, f) := by
    unfold f2_reckoned_b261
    rw [if_neg (by rw [hf]; decide)]
  unfold f2_reckoned_b14
  rw [hb, if_neg (show ¬ f 8 = 0 by rw [hf]; decide), ite_self, ite_self]
/-- an order that reckons with the two on top -/
theorem ev_bin {X g f : Nat → Int32} {e h a t o v k m : Nat} {p1 : Int32} {A B : Nat → Nat → Int32} (ha : a < e) (he : e ≤ 240) (ht : t < 240) (hh : h + 1 < 240) (hf : f 8 = 0) (hA : A 0 a = nI (COP o)) (hB : B 24 a = nI (1048576 * o + v)) (hvl : v < 1048576) (o1 : 2 ≤ o) (o2 : o ≤ 9) (h1 : A 6 h = B 29 h) (h2 : A 6 (h + 1) = B 29 (h + 1)) :
    (∃ y, (7 ≤ o → y = 0 ∨ y = 1) ∧ f2_reckoned_l14 8 X p1 (nI e) (k + 1) A f (nI (h + 2)) (nI a) (nI t) = f2_reckoned_l14 8 X p1 (nI e) k (updA A 6 (upd (A 6) h y)) f (nI (h + 1)) (nI (a + 1)) (nI (t + 1)) ∧ f10_comesTo_l16 g p1 (nI e) (m + 1) B (nI (h + 2)) (nI 0) (nI a) = f10_comesTo_l16 g p1 (nI e) m (updA B 29 (upd (B 29) h y)) (nI (h + 1)) (nI 0) (nI (a + 1))) ∨
    (0 < k → ∃ A' f', f2_reckoned_l14 8 X p1 (nI e) (k + 1) A f (nI (h + 2)) (nI a) (nI t) = some (0, A', f') ∧ f10_comesTo_l16 g p1 (nI e) (m + 1) B (nI (h + 2)) (nI 0) (nI a) = some (0, B) ∧ (∀ j, j ≠ 6 → A' j = A j) ∧ (∀ j, j ≠ 8 → f' j = f j)) := by
  have co : COP o < 256 ∧ COP o ≠ 1 ∧ COP o ≠ 2 ∧ COP o ≠ 3 ∧ COP o ≠ 4 ∧ COP o ≠ 5 := by
    have : ∀ o, 2 ≤ o → o ≤ 9 → COP o < 256 ∧ COP o ≠ 1 ∧ COP o ≠ 2 ∧ COP o ≠ 3 ∧ COP o ≠ 4 ∧ COP o ≠ 5 := by
      intro o h1 h2
      rcases (show o = 2 ∨ o = 3 ∨ o = 4 ∨ o = 5 ∨ o = 6 ∨ o = 7 ∨ o = 8 ∨ o = 9 by omega) with rfl | rfl | rfl | rfl | rfl | rfl | rfl | rfl <;> decide
    exact this o o1 o2
  obtain ⟨c0, c1, c2, c3, c4, c5⟩ := co
  have eo : (1048576 * o + v) / 1048576 = o := by omega
  by_cases hn : (o = 5 ∨ o = 6) ∧ B 29 (h + 1) = nI 0
  · right
    intro hk
    obtain ⟨k', rfl⟩ : ∃ i, k = i + 1 := ⟨k - 1, by omega⟩
    obtain ⟨ho, hz⟩ := hn
    have hz1 : A 6 (h + 1) = nI 0 := h2.trans hz
    have jn := jn_no (f := f) (A := A) (A 6 h) ho
    have s1 : ∀ kk, f2_reckoned_l14 8 X p1 (nI e) (kk + 1) A f (nI (h + 2)) (nI a) (nI t) = f2_reckoned_l14 8 X p1 (nI e) kk (updA A 6 (upd (A 6) h 0)) (upd f 8 1) (nI (h + 1)) (nI (a + 1)) (nI (t + 1)) := by
      intro kk
      simp (disch := omega) only [f2_reckoned_l14, f2_reckoned_b14, hf, hA, litI, letv, eqI, leI, ltI, addI, mulI, subI, clI, addneg, at_nI, put_nI, nI_s, orI, shl1I, ifb0, ifb1, Option.bind_some, gx, ux, Nat.add_zero, Nat.zero_add, Nat.not_lt_zero, false_or, or_false, Nat.mul_zero, Nat.zero_mul, if_neg, if_pos, if_true, show h + 2 - 1 = h + 1 from rfl, show h + 1 - 1 = h from rfl, hz1, jn]
    have s2 := ev_end (X := X) (p1 := p1) (p2 := nI e) (k := k') (A := updA A 6 (upd (A 6) h 0)) (f := upd f 8 1) (x := nI (h + 1)) (y := nI (a + 1)) (z := nI (t + 1)) upd_s
    refine ⟨_, _, (s1 _).trans s2, ?_, fun j hj => updA_n hj, fun j hj => upd_n hj⟩
    have b1 : h + 2 - 1 = h + 1 := rfl
    rcases ho with rfl | rfl
    · have eo' : (1048576 * 5 + v) / 1048576 = 5 := eo
      simp (disch := omega) only [f10_comesTo_l16, f10_comesTo_b16, hB, litI, letv, eqI, leI, ltI, addI, mulI, subI, clI, addneg, at_nI, put_nI, nI_s, orI, shl1I, ifb0, ifb1, Option.bind_some, gx, ux, Nat.add_zero, Nat.zero_add, Nat.not_lt_zero, false_or, or_false, Nat.mul_zero, Nat.zero_mul, divI, eo', if_neg, if_pos, if_true, b1, hz]
    · have eo' : (1048576 * 6 + v) / 1048576 = 6 := eo
      simp (disch := omega) only [f10_comesTo_l16, f10_comesTo_b16, hB, litI, letv, eqI, leI, ltI, addI, mulI, subI, clI, addneg, at_nI, put_nI, nI_s, orI, shl1I, ifb0, ifb1, Option.bind_some, gx, ux, Nat.add_zero, Nat.zero_add, Nat.not_lt_zero, false_or, or_false, Nat.mul_zero, Nat.zero_mul, divI, eo', if_neg, if_pos, if_true, b1, hz]
  · left
    obtain ⟨y, j1, j2, j3⟩ := jn_same (f := f) (A := A) o1 o2 (A 6 h) (A 6 (h + 1)) (by rw [h2]; exact hn)
    have j2' := j2
    rw [h1, h2] at j2'
    refine ⟨y, j3, ?_, ?_⟩
    · simp (disch := omega) only [f2_reckoned_l14, f2_reckoned_b14, hf, hA, litI, letv, eqI, leI, ltI, addI, mulI, subI, clI, addneg, at_nI, put_nI, nI_s, orI, shl1I, ifb0, ifb1, Option.bind_some, gx, ux, Nat.add_zero, Nat.zero_add, Nat.not_lt_zero, false_or, or_false, Nat.mul_zero, Nat.zero_mul, if_neg, if_pos, if_true, show h + 2 - 1 = h + 1 from rfl, show h + 1 - 1 = h from rfl, j1]
    · simp (disch := omega) only [f10_comesTo_l16, f10_comesTo_b16, f10_comesTo_b203, hB, litI, letv, eqI, leI, ltI, addI, mulI, subI, clI, addneg, at_nI, put_nI, nI_s, orI, shl1I, ifb0, ifb1, Option.bind_some, gx, ux, Nat.add_zero, Nat.zero_add, Nat.not_lt_zero, false_or, or_false, Nat.mul_zero, Nat.zero_mul, divI, irmI, eo, if_neg, if_pos, if_true, show h + 2 - 1 = h + 1 from rfl, show h + 1 - 1 = h from rfl, j2']
      by_cases u : o = 5
      · have hz : ¬ B 29 (h + 1) = nI 0 := fun q => hn ⟨Or.inl u, q⟩
        simp (disch := omega) only [u, if_true, hz, if_false]
      by_cases w : o = 6
      · have hz : ¬ B 29 (h + 1) = nI 0 := fun q => hn ⟨Or.inr w, q⟩
        simp (disch := omega) only [u, w, if_true, hz, if_false, if_neg]
      · simp (disch := omega) only [u, w, if_false]
/-- & and |: what follows is passed over, or what stands on top goes -/
theorem ev_jump {X g f : Nat → Int32} {e h a t o v k m : Nat} {p1 : Int32} {A B : Nat → Nat → Int32} (ha : a < e) (he : e ≤ 240) (ht : t < 240) (hh : h < 240) (hf : f 8 = 0) (hA : A 0 a = nI (COP o)) (hv : A 1 a = nI v) (hB : B 24 a = nI (1048576 * o + v)) (hvl : v < 1048576) (ho : o = 11 ∨ o = 12) {x : Int32} (hx : x = 0 ∨ x = 1) (h1 : A 6 h = x) (h2 : B 29 h = x) :
    (f2_reckoned_l14 8 X p1 (nI e) (k + 1) A f (nI (h + 1)) (nI a) (nI t) = f2_reckoned_l14 8 X p1 (nI e) k A f (nI (h + 1)) (nI v) (nI (t + 1)) ∧ f10_comesTo_l16 g p1 (nI e) (m + 1) B (nI (h + 1)) (nI 0) (nI a) = f10_comesTo_l16 g p1 (nI e) m B (nI (h + 1)) (nI 0) (nI v)) ∨
    (f2_reckoned_l14 8 X p1 (nI e) (k + 1) A f (nI (h + 1)) (nI a) (nI t) = f2_reckoned_l14 8 X p1 (nI e) k A f (nI h) (nI (a + 1)) (nI (t + 1)) ∧ f10_comesTo_l16 g p1 (nI e) (m + 1) B (nI (h + 1)) (nI 0) (nI a) = f10_comesTo_l16 g p1 (nI e) m B (nI h) (nI 0) (nI (a + 1))) := by
  have hx' : x = nI 0 ∨ x = nI 1 := hx
  rcases ho with rfl | rfl
  · have hA' : A 0 a = nI 4 := hA
    rcases hx' with rfl | rfl
    · left
      simp (disch := omega) only [f2_reckoned_l14, f2_reckoned_b14, f2_reckoned_b159, f2_reckoned_b180, f2_reckoned_b202, f10_comesTo_l16, f10_comesTo_b16, f10_comesTo_b135, f10_comesTo_b155, hf, hA', hv, hB, litI, letv, eqI, leI, ltI, addI, mulI, subI, clI, addneg, at_nI, put_nI, nI_s, orI, shl1I, ifb0, ifb1, Option.bind_some, gx, ux, Nat.add_zero, Nat.zero_add, Nat.not_lt_zero, false_or, or_false, Nat.mul_zero, Nat.zero_mul, divI, irmI, if_neg, if_pos, if_true, Nat.add_sub_cancel, Nat.sub_zero, h1, h2]
      refine ⟨trivial, ?_⟩
      rw [show (1048576 * 11 + v) % 1048576 = v by omega]
    · right
      simp (disch := omega) only [f2_reckoned_l14, f2_reckoned_b14, f2_reckoned_b159, f2_reckoned_b180, f2_reckoned_b202, f10_comesTo_l16, f10_comesTo_b16, f10_comesTo_b135, f10_comesTo_b155, hf, hA', hv, hB, litI, letv, eqI, leI, ltI, addI, mulI, subI, clI, addneg, at_nI, put_nI, nI_s, orI, shl1I, ifb0, ifb1, Option.bind_some, gx, ux, Nat.add_zero, Nat.zero_add, Nat.not_lt_zero, false_or, or_false, Nat.mul_zero, Nat.zero_mul, divI, irmI, if_neg, if_pos, if_true, Nat.add_sub_cancel, Nat.sub_zero, h1, h2]
      exact ⟨trivial, trivial⟩
  · have hA' : A 0 a = nI 5 := hA
    rcases hx' with rfl | rfl
    · right
      simp (disch := omega) only [f2_reckoned_l14, f2_reckoned_b14, f2_reckoned_b159, f2_reckoned_b180, f2_reckoned_b202, f10_comesTo_l16, f10_comesTo_b16, f10_comesTo_b135, f10_comesTo_b155, hf, hA', hv, hB, litI, letv, eqI, leI, ltI, addI, mulI, subI, clI, addneg, at_nI, put_nI, nI_s, orI, shl1I, ifb0, ifb1, Option.bind_some, gx, ux, Nat.add_zero, Nat.zero_add, Nat.not_lt_zero, false_or, or_false, Nat.mul_zero, Nat.zero_mul, divI, irmI, if_neg, if_pos, if_true, Nat.add_sub_cancel, Nat.sub_zero, h1, h2]
      exact ⟨trivial, trivial⟩
    · left
      simp (disch := omega) only [f2_reckoned_l14, f2_reckoned_b14, f2_reckoned_b159, f2_reckoned_b180, f2_reckoned_b202, f10_comesTo_l16, f10_comesTo_b16, f10_comesTo_b135, f10_comesTo_b155, hf, hA', hv, hB, litI, letv, eqI, leI, ltI, addI, mulI, subI, clI, addneg, at_nI, put_nI, nI_s, orI, shl1I, ifb0, ifb1, Option.bind_some, gx, ux, Nat.add_zero, Nat.zero_add, Nat.not_lt_zero, false_or, or_false, Nat.mul_zero, Nat.zero_mul, divI, irmI, if_neg, if_pos, if_true, Nat.add_sub_cancel, Nat.sub_zero, h1, h2]
      refine ⟨trivial, ?_⟩
      rw [show (1048576 * 12 + v) % 1048576 = v by omega]
def EVout (X g : Nat → Int32) (p1 : Int32) (e st h b k m t : Nat) (fl : Bool) (A B : Nat → Nat → Int32) (f : Nat → Int32) (P : Option (Int32 × (Nat → Nat → Int32) × (Nat → Int32))) (Q : Option (Int32 × (Nat → Nat → Int32))) : Prop :=
  (∃ A' B' v t' k' m', P = f2_reckoned_l14 8 X p1 (nI e) k' A' f (nI (h + 1)) (nI b) (nI t') ∧ Q = f10_comesTo_l16 g p1 (nI e) m' B' (nI (h + 1)) (nI 0) (nI b) ∧ A' 6 h = v ∧ B' 29 h = v ∧ (fl = false → v = 0 ∨ v = 1) ∧ (∀ i, i < h → A' 6 i = A 6 i ∧ B' 29 i = B 29 i) ∧ (∀ j, j ≠ 6 → A' j = A j) ∧ (∀ j, j ≠ 29 → B' j = B j) ∧ h + 1 ≤ t' ∧ t' + st ≤ b ∧ k' + t' = k + t ∧ m' + t' = m + t) ∨
  (∃ A' f' B', P = some (0, A', f') ∧ Q = some (0, B') ∧ (∀ j, j ≠ 6 → A' j = A j) ∧ (∀ j, j ≠ 29 → B' j = B j) ∧ ∀ j, j ≠ 8 → f' j = f j)
theorem ev_main {op vl : Nat → Nat} {X g : Nat → Int32} {e st : Nat} {p1 : Int32} (he : e ≤ 240) : ∀ N fl a b, WF op vl N fl a b → ∀ (A B : Nat → Nat → Int32) (f : Nat → Int32) (h t k m : Nat), EV op vl X A B a b → f 8 = 0 → b ≤ e → h ≤ t → t + st ≤ a → 300 < k + t → 300 < m + t → EVout X g p1 e st h b k m t fl A B f (f2_reckoned_l14 8 X p1 (nI e) k A f (nI h) (nI a) (nI t)) (f10_comesTo_l16 g p1 (nI e) m B (nI h) (nI 0) (nI a)) := by
  intro N
  induction N with
  | zero => intro fl a b h; exact h.elim
  | succ N ih =>
    have two : ∀ (fl : Bool) (a b mm : Nat) (lo hi : Nat) , WF op vl N true a mm → WF op vl N true mm (b - 1) → lo ≤ op (b - 1) → op (b - 1) ≤ hi → 2 ≤ lo → hi ≤ 9 → (fl = false → 7 ≤ lo) → mm < b → ∀ (A B : Nat → Nat → Int32) (f : Nat → Int32) (h t k m : Nat), EV op vl X A B a b → f 8 = 0 → b ≤ e → h ≤ t → t + st ≤ a → 300 < k + t → 300 < m + t → EVout X g p1 e st h b k m t fl A B f (f2_reckoned_l14 8 X p1 (nI e) k A f (nI h) (nI a) (nI t)) (f10_comesTo_l16 g p1 (nI e) m B (nI h) (nI 0) (nI a)) := by
      intro fl a b mm lo hi w1 w2 w3 w4 w5 w6 w7 w8 A B f h t k m hE hf hb hh ht hk hm
      have l1 := WF_lt _ _ _ _ w1
      have l2 := WF_lt _ _ _ _ w2
      rcases ih true a mm w1 A B f h t k m (hE.congr (fun _ _ => rfl) (fun _ _ => rfl) (Nat.le_refl _) (by omega)) hf (by omega) hh ht hk hm with ⟨A1, B1, v1, t1, k1, m1, e1, e2, u1, u2, -, u4, u5, u6, u7, u8, u9, u10⟩ | ⟨A1, f1, B1, e1, e2, u5, u6, u7⟩
      · rcases ih true mm (b - 1) w2 A1 B1 f (h + 1) t1 k1 m1 (hE.congr u5 u6 (by omega) (by omega)) hf (by omega) u7 u8 (by omega) (by omega) with ⟨A2, B2, v2, t2, k2, m2, e3, e4, s1, s2, -, s4, s5, s6, s7, s8, s9, s10⟩ | ⟨A2, f2, B2, e3, e4, s5, s6, s7⟩
        · obtain ⟨k2', rfl⟩ : ∃ i, k2 = i + 1 := ⟨k2 - 1, by omega⟩
          obtain ⟨m2', rfl⟩ : ∃ i, m2 = i + 1 := ⟨m2 - 1, by omega⟩
          obtain ⟨g1, g2, g3, g4, g5⟩ := hE.1 (b - 1) (by omega) (by omega)
          have q1 : A2 6 h = B2 29 h := by rw [(s4 h (by omega)).1, (s4 h (by omega)).2, u1, u2]
          have q2 : A2 6 (h + 1) = B2 29 (h + 1) := by rw [s1, s2]
          have q3 : A2 0 (b - 1) = nI (COP (op (b - 1))) := by rw [s5 0 (by decide), u5 0 (by decide)]; exact g3
          have q4 : B2 24 (b - 1) = nI (1048576 * op (b - 1) + vl (b - 1)) := by rw [s6 24 (by decide), u6 24 (by decide)]; exact g5
          rcases ev_bin (X := X) (g := g) (f := f) (e := e) (h := h) (a := b - 1) (t := t2) (k := k2') (m := m2') (p1 := p1) (A := A2) (B := B2) (by omega) he (by omega) (by omega) hf q3 q4 g2 (by omega) (by omega) q1 q2 with ⟨y, y1, y2, y3⟩ | hr
          · left
            refine ⟨updA A2 6 (upd (A2 6) h y), updA B2 29 (upd (B2 29) h y), y, t2 + 1, k2', m2', ?_, ?_, ?_, ?_, fun q => y1 (by have := w7 q; omega), fun i hi => ⟨?_, ?_⟩, fun j hj => ?_, fun j hj => ?_, by omega, by omega, by omega, by omega⟩
            · rw [e1, e3, y2, show b - 1 + 1 = b by omega]
            · rw [e2, e4, y3, show b - 1 + 1 = b by omega]
            · rw [updA_s, upd_s]
            · rw [updA_s, upd_s]
            · rw [updA_s, upd_n (by omega), (s4 i (by omega)).1, (u4 i hi).1]
            · rw [updA_s, upd_n (by omega), (s4 i (by omega)).2, (u4 i hi).2]
            · rw [updA_n hj, s5 j hj, u5 j hj]
            · rw [updA_n hj, s6 j hj, u6 j hj]
          · right
            obtain ⟨A3, f3, y1, y2, y3, y4⟩ := hr (by omega)
            refine ⟨A3, f3, B2, ?_, ?_, fun j hj => ?_, fun j hj => ?_, y4⟩
            · rw [e1, e3, y1]
            · rw [e2, e4, y2]
            · rw [y3 j hj, s5 j hj, u5 j hj]
            · rw [s6 j hj, u6 j hj]
        · exact Or.inr ⟨A2, f2, B2, e1.trans e3, e2.trans e4, fun j hj => (s5 j hj).trans (u5 j hj), fun j hj => (s6 j hj).trans (u6 j hj), s7⟩
      · exact Or.inr ⟨A1, f1, B1, e1, e2, u5, u6, u7⟩
    intro fl a b w A B f h t k m hE hf hb hh ht hk hm
    cases fl with
    | true =>
      rcases w with ⟨w1, w2⟩ | ⟨mm, w1, w2, w3, w4, w5⟩
      · subst w1
        left
        obtain ⟨k', rfl⟩ : ∃ i, k = i + 1 := ⟨k - 1, by omega⟩
        obtain ⟨m', rfl⟩ : ∃ i, m = i + 1 := ⟨m - 1, by omega⟩
        obtain ⟨g1, g2, g3, g4, g5⟩ := hE.1 a (by omega) (by omega)
        obtain ⟨x, x1, x2⟩ := ev_push (X := X) (g := g) (f := f) (e := e) (h := h) (a := a) (t := t) (k := k') (m := m') (p1 := p1) (A := A) (B := B) (by omega) he (by omega) (by omega) hf g3 g4 g5 w2 g2 hE.2
        refine ⟨_, _, x, t + 1, k', m', x1, x2, ?_, ?_, fun q => absurd q (by decide), fun i hi => ⟨?_, ?_⟩, fun j hj => updA_n hj, fun j hj => updA_n hj, by omega, by omega, by omega, by omega⟩
        · rw [updA_s, upd_s]
        · rw [updA_s, upd_s]
        · rw [updA_s, upd_n (by omega)]
        · rw [updA_s, upd_n (by omega)]
      · exact two true a b mm 2 6 w1 w2 w3 w4 (by omega) (by omega) (fun q => absurd q (by decide)) w5 A B f h t k m hE hf hb hh ht hk hm
    | false =>
      rcases w with ⟨mm, w1, w2, w3, w4, w5⟩ | ⟨w1, w2, w3⟩ | ⟨mm, w1, w2, w3, w4⟩
      · exact two false a b mm 7 9 w1 w2 w3 w4 (by omega) (by omega) (fun _ => by omega) w5 A B f h t k m hE hf hb hh ht hk hm
      · have l1 := WF_lt _ _ _ _ w1
        rcases ih false a (b - 1) w1 A B f h t k m (hE.congr (fun _ _ => rfl) (fun _ _ => rfl) (Nat.le_refl _) (by omega)) hf (by omega) hh ht hk hm with ⟨A1, B1, v1, t1, k1, m1, e1, e2, u1, u2, u3, u4, u5, u6, u7, u8, u9, u10⟩ | ⟨A1, f1, B1, e1, e2, u5, u6, u7⟩
        · obtain ⟨k1', rfl⟩ : ∃ i, k1 = i + 1 := ⟨k1 - 1, by omega⟩
          obtain ⟨m1', rfl⟩ : ∃ i, m1 = i + 1 := ⟨m1 - 1, by omega⟩
          obtain ⟨g1, g2, g3, g4, g5⟩ := hE.1 (b - 1) (by omega) (by omega)
          have q3 : A1 0 (b - 1) = nI (COP 10) := by rw [u5 0 (by decide), ← w2]; exact g3
          have q4 : B1 24 (b - 1) = nI (1048576 * 10 + vl (b - 1)) := by rw [u6 24 (by decide), ← w2]; exact g5
          obtain ⟨y, y0, y1, y2⟩ := ev_not (X := X) (g := g) (f := f) (e := e) (h := h) (a := b - 1) (t := t1) (k := k1') (m := m1') (p1 := p1) (A := A1) (B := B1) (by omega) he (by omega) (by omega) hf q3 q4 g2 (u3 rfl) u1 u2
          left
          refine ⟨updA A1 6 (upd (A1 6) h y), updA B1 29 (upd (B1 29) h y), y, t1 + 1, k1', m1', ?_, ?_, ?_, ?_, fun _ => y0, fun i hi => ⟨?_, ?_⟩, fun j hj => ?_, fun j hj => ?_, by omega, by omega, by omega, by omega⟩
          · rw [e1, y1, show b - 1 + 1 = b by omega]
          · rw [e2, y2, show b - 1 + 1 = b by omega]
          · rw [updA_s, upd_s]
          · rw [updA_s, upd_s]
          · rw [updA_s, upd_n (by omega), (u4 i hi).1]
          · rw [updA_s, upd_n (by omega), (u4 i hi).2]
          · rw [updA_n hj, u5 j hj]
          · rw [updA_n hj, u6 j hj]
        · exact Or.inr ⟨A1, f1, B1, e1, e2, u5, u6, u7⟩
      · have l1 := WF_lt _ _ _ _ w1
        have l2 := WF_lt _ _ _ _ w4
        rcases ih false a mm w1 A B f h t k m (hE.congr (fun _ _ => rfl) (fun _ _ => rfl) (Nat.le_refl _) (by omega)) hf (by omega) hh ht hk hm with ⟨A1, B1, v1, t1, k1, m1, e1, e2, u1, u2, u3, u4, u5, u6, u7, u8, u9, u10⟩ | ⟨A1, f1, B1, e1, e2, u5, u6, u7⟩
        · obtain ⟨k1', rfl⟩ : ∃ i, k1 = i + 1 := ⟨k1 - 1, by omega⟩
          obtain ⟨m1', rfl⟩ : ∃ i, m1 = i + 1 := ⟨m1 - 1, by omega⟩
          obtain ⟨g1, g2, g3, g4, g5⟩ := hE.1 mm (by omega) (by omega)
          have q3 : A1 0 mm = nI (COP (op mm)) := by rw [u5 0 (by decide)]; exact g3
          have q5 : A1 1 mm = nI (vl mm) := by rw [u5 1 (by decide)]; exact g4
          have q4 : B1 24 mm = nI (1048576 * op mm + vl mm) := by rw [u6 24 (by decide)]; exact g5
          rcases ev_jump (X := X) (g := g) (f := f) (e := e) (h := h) (a := mm) (t := t1) (k := k1') (m := m1') (p1 := p1) (A := A1) (B := B1) (by omega) he (by omega) (by omega) hf q3 q5 q4 g2 w2 (u3 rfl) u1 u2 with ⟨y1, y2⟩ | ⟨y1, y2⟩
          · left
            refine ⟨A1, B1, v1, t1 + 1, k1', m1', ?_, ?_, u1, u2, u3, u4, u5, u6, by omega, by omega, by omega, by omega⟩
            · rw [e1, y1, w3]
            · rw [e2, y2, w3]
          · rcases ih false (mm + 1) b w4 A1 B1 f h (t1 + 1) k1' m1' (hE.congr u5 u6 (by omega) (Nat.le_refl _)) hf hb (by omega) (by omega) (by omega) (by omega) with ⟨A2, B2, v2, t2, k2, m2, e3, e4, s1, s2, s3, s4, s5, s6, s7, s8, s9, s10⟩ | ⟨A2, f2, B2, e3, e4, s5, s6, s7⟩
            · left
              refine ⟨A2, B2, v2, t2, k2, m2, ?_, ?_, s1, s2, s3, fun i hi => ⟨(s4 i hi).1.trans (u4 i hi).1, (s4 i hi).2.trans (u4 i hi).2⟩, fun j hj => (s5 j hj).trans (u5 j hj), fun j hj => (s6 j hj).trans (u6 j hj), s7, s8, by omega, by omega⟩
              · rw [e1, y1, e3]
              · rw [e2, y2, e4]
            · right
              refine ⟨A2, f2, B2, ?_, ?_, fun j hj => (s5 j hj).trans (u5 j hj), fun j hj => (s6 j hj).trans (u6 j hj), s7⟩
              · rw [e1, y1, e3]
              · rw [e2, y2, e4]
        · exact Or.inr ⟨A1, f1, B1, e1, e2, u5, u6, u7⟩
/-- what a run of orders comes to: class and reference alike -/
theorem ev_all {op vl : Nat → Nat} {X g f : Nat → Int32} {N a b : Nat} {fl : Bool} {A B : Nat → Nat → Int32} (hb : b ≤ 240) (w : WF op vl N fl a b) (hE : EV op vl X A B a b) : ∃ r A' f' B', f2_reckoned f A 8 X (nI a) (nI b) = some (r, A', f') ∧ f10_comesTo g B (nI a) (nI b) = some (r, B') ∧ (fl = false → r = 0 ∨ r = 1) ∧ (∀ j, j ≠ 6 → A' j = A j) ∧ (∀ j, j ≠ 29 → B' j = B j) ∧ ∀ j, j ≠ 8 → f' j = f j := by
  have l1 := WF_lt _ _ _ _ w
  have hNF := NF_ge
  have e1 : f2_reckoned f A 8 X (nI a) (nI b) = f2_reckoned_l14 8 X (nI a) (nI b) NF A (upd f 8 0) (nI 0) (nI a) (nI 0) := rfl
  have e2 : f10_comesTo g B (nI a) (nI b) = f10_comesTo_l16 g (nI a) (nI b) NF B (nI 0) (nI 0) (nI a) := by
    unfold f10_comesTo
    simp (disch := omega) only [litI, letv, eqI, leI, ltI, addI, mulI, subI, clI, addneg, at_nI, put_nI, nI_s, orI, shl1I, ifb0, ifb1, Option.bind_some, gx, ux, Nat.add_zero, Nat.zero_add, Nat.not_lt_zero, false_or, or_false, Nat.mul_zero, Nat.zero_mul, divI]
    rw [show a / 260 = 0 by omega, Nat.mul_zero]
  have hf : upd f 8 0 8 = 0 := upd_s
  rw [e1, e2]
  rcases ev_main (g := g) (st := a) (p1 := nI a) hb N fl a b w A B (upd f 8 0) 0 0 NF NF hE hf (Nat.le_refl _) (Nat.le_refl _) (by omega) (by omega) (by omega) with ⟨A1, B1, v1, t1, k1, m1, e1, e2, u1, u2, u3, u4, u5, u6, u7, u8, u9, u10⟩ | ⟨A1, f1, B1, e1, e2, u5, u6, u7⟩
  · obtain ⟨k1', rfl⟩ : ∃ i, k1 = i + 1 := ⟨k1 - 1, by omega⟩
    obtain ⟨m1', rfl⟩ : ∃ i, m1 = i + 1 := ⟨m1 - 1, by omega⟩
    refine ⟨v1, A1, upd f 8 0, B1, ?_, ?_, u3, u5, u6, fun j hj => upd_n hj⟩
    · rw [e1]
      have hf' : upd f 8 (nI 0) 8 = nI 0 := upd_s
      simp (disch := omega) only [f2_reckoned_l14, f2_reckoned_b14, f2_reckoned_b261, litI, letv, eqI, leI, ltI, addI, mulI, subI, clI, addneg, at_nI, put_nI, nI_s, orI, shl1I, ifb0, ifb1, Option.bind_some, gx, ux, Nat.add_zero, Nat.zero_add, Nat.not_lt_zero, false_or, or_false, Nat.mul_zero, Nat.zero_mul, if_neg, if_pos, if_true, u1, hf', Nat.sub_self, ite_self]
    · rw [e2]
      simp (disch := omega) only [f10_comesTo_l16, f10_comesTo_b16, litI, letv, eqI, leI, ltI, addI, mulI, subI, clI, addneg, at_nI, put_nI, nI_s, orI, shl1I, ifb0, ifb1, Option.bind_some, gx, ux, Nat.add_zero, Nat.zero_add, Nat.not_lt_zero, false_or, or_false, Nat.mul_zero, Nat.zero_mul, if_neg, if_pos, if_true, u2]
  · exact ⟨0, A1, f1, B1, e1, e2, fun _ => Or.inl rfl, u5, u6, fun j hj => (u7 j hj).trans (upd_n hj)⟩
