/-! THE LAW: what its texts are read by -/
theorem WF_mono {op vl : Nat → Nat} : ∀ N fl a b, WF op vl N fl a b → WF op vl (N + 1) fl a b := by
  intro N
  induction N with
  | zero => intro fl a b h; cases fl <;> exact h.elim
  | succ N ih =>
    intro fl a b h
    cases fl with
    | true =>
      rcases h with h | ⟨m, h1, h2, h3⟩
      · exact Or.inl h
      · exact Or.inr ⟨m, ih _ _ _ h1, ih _ _ _ h2, h3⟩
    | false =>
      rcases h with ⟨m, h1, h2, h3⟩ | ⟨h1, h2⟩ | ⟨m, h1, h2, h3, h4⟩
      · exact Or.inl ⟨m, ih _ _ _ h1, ih _ _ _ h2, h3⟩
      · exact Or.inr (Or.inl ⟨ih _ _ _ h1, h2⟩)
      · exact Or.inr (Or.inr ⟨m, ih _ _ _ h1, h2, h3, ih _ _ _ h4⟩)
theorem WF_le {op vl : Nat → Nat} {N M : Nat} {fl : Bool} {a b : Nat} (h : WF op vl N fl a b) (hM : N ≤ M) : WF op vl M fl a b := by
  obtain ⟨d, rfl⟩ : ∃ d, M = N + d := ⟨M - N, by omega⟩
  induction d with
  | zero => exact h
  | succ d ih => exact WF_mono _ _ _ _ (ih (by omega))
theorem WF_congr {op vl op' vl' : Nat → Nat} : ∀ N fl a b, WF op vl N fl a b → (∀ j, a ≤ j → j < b → op' j = op j ∧ vl' j = vl j) → WF op' vl' N fl a b := by
  intro N
  induction N with
  | zero => intro fl a b h; cases fl <;> exact h.elim
  | succ N ih =>
    intro fl a b h he
    have hab := WF_lt _ _ _ _ h
    cases fl with
    | true =>
      rcases h with ⟨h1, h2⟩ | ⟨m, h1, h2, h3, h4, h5⟩
      · left
        obtain ⟨e1, e2⟩ := he a (Nat.le_refl _) hab
        rw [e1, e2]
        exact ⟨h1, h2⟩
      · right
        have l1 := WF_lt _ _ _ _ h1
        have l2 := WF_lt _ _ _ _ h2
        obtain ⟨e1, e2⟩ := he (b - 1) (by omega) (by omega)
        refine ⟨m, ih _ _ _ h1 fun j a c => he j a (by omega), ih _ _ _ h2 fun j a c => he j (by omega) (by omega), ?_, ?_, h5⟩
        · rw [e1]; exact h3
        · rw [e1]; exact h4
    | false =>
      rcases h with ⟨m, h1, h2, h3, h4, h5⟩ | ⟨h1, h2, h3⟩ | ⟨m, h1, h2, h3, h4⟩
      · left
        have l1 := WF_lt _ _ _ _ h1
        have l2 := WF_lt _ _ _ _ h2
        obtain ⟨e1, e2⟩ := he (b - 1) (by omega) (by omega)
        refine ⟨m, ih _ _ _ h1 fun j a c => he j a (by omega), ih _ _ _ h2 fun j a c => he j (by omega) (by omega), ?_, ?_, h5⟩
        · rw [e1]; exact h3
        · rw [e1]; exact h4
      · right; left
        obtain ⟨e1, e2⟩ := he (b - 1) (by omega) (by omega)
        exact ⟨ih _ _ _ h1 fun j a c => he j a (by omega), by rw [e1]; exact h2, h3⟩
      · right; right
        have l1 := WF_lt _ _ _ _ h1
        have l2 := WF_lt _ _ _ _ h4
        obtain ⟨e1, e2⟩ := he m (by omega) (by omega)
        refine ⟨m, ih _ _ _ h1 fun j a c => he j a (by omega), ?_, ?_, ih _ _ _ h4 fun j a c => he j (by omega) (by omega)⟩
        · rw [e1]; exact h2
        · rw [e2]; exact h3
/-- a number of five digits -/
theorem number_c {n pos : Nat} {b : Nat → Nat} {fT g : Nat → Int32} {AT B : Nat → Nat → Int32} (hX : TXT n b AT B) (hC : CUR n pos fT g) (hdig : f10_isDigit g B = some 1) :
    (∃ v fT' g', f7_number fT AT 5 = some (v, fT') ∧ f10_readsNumber g B = some (0, g') ∧ FLT fT' g' ∧ ∀ j, j ≠ 9 → j ≠ 11 → j ≠ 12 → g' j = g j) ∨
    (∃ v d fT' g', 1 ≤ d ∧ v < 100000 ∧ f7_number fT AT 5 = some (nI v, fT') ∧ f10_readsNumber g B = some (1, g') ∧ CUR n (pos + d) fT' g' ∧ g' 12 = nI v ∧ ∀ j, j ≠ 9 → j ≠ 11 → j ≠ 12 → g' j = g j) := by
  have hn := hX.1
  have hpn := hC.2.2.2.2.2
  unfold f7_number f10_readsNumber
  rcases digit_c hX hC with ⟨d1, d2⟩ | ⟨d, hd, h1, hlt, d1, d2⟩
  · rw [d2] at hdig; exact absurd hdig (by decide)
  simp only [letv]
  have hC0 : CUR n pos fT (upd g 12 0) := hC.congr (upd_n (by decide)) (upd_n (by decide))
  refine loop_rel (fun k (s : (Nat → Int32) × Int32 × Int32) => f7_number_l4 AT 5 k s.1 s.2.1 s.2.2) (fun k (s : (Nat → Int32)) => f10_readsNumber_l10 B k s (g 9)) 5
    (fun i s t => ∃ v, s = (s.1, nI v, nI i) ∧ v < 10 ^ i ∧ CUR n (pos + i) s.1 t ∧ t 12 = nI v ∧ ∀ j, j ≠ 9 → j ≠ 11 → j ≠ 12 → t j = g j)
    (fun P Q => (∃ v fT' g', P = some (v, fT') ∧ Q = some (0, g') ∧ FLT fT' g' ∧ ∀ j, j ≠ 9 → j ≠ 11 → j ≠ 12 → g' j = g j) ∨ (∃ v d fT' g', 1 ≤ d ∧ v < 100000 ∧ P = some (nI v, fT') ∧ Q = some (1, g') ∧ CUR n (pos + d) fT' g' ∧ g' 12 = nI v ∧ ∀ j, j ≠ 9 → j ≠ 11 → j ≠ 12 → g' j = g j)) (by omega) ?_ (fT, 0, 0) (upd g 12 0) ⟨0, rfl, by decide, hC0, upd_s, fun j a c d => upd_n d⟩
  rintro k k' i ⟨s, x, y⟩ t hi ⟨v, he, hv, hCs, h12, hfr⟩
  injection he with _ he
  injection he with he1 he2
  subst he1 he2
  have ea : ∀ k s x i, f7_number_l4 AT 5 (k + 1) s x i = f7_number_b4 AT 5 (f7_number_l4 AT 5 k) s x i := fun _ _ _ _ => rfl
  have eb : ∀ k t, f10_readsNumber_l10 B (k + 1) t (g 9) = f10_readsNumber_b10 B (f10_readsNumber_l10 B k) t (g 9) := fun _ _ => rfl
  simp only [ea, eb]
  replace hCs : CUR n (pos + i) s t := hCs
  have p10 : 10 ^ i ≤ 10 ^ 5 := Nat.pow_le_pow_right (by decide) hi
  have pin := hCs.2.2.2.2.2
  unfold f7_number_b4 f7_number_b54 f10_readsNumber_b10
  rw [if_neg (show ¬ 5 < nI i by rw [show (5 : Int32) = nI 5 from rfl, ltI (by omega) (by omega)]; omega), tlook_c hX hCs]
  rcases digit_c hX hCs with ⟨e1, e2⟩ | ⟨c, hc, h2, hlt2, e1, e2⟩
  · left
    right
    rw [e1, e2, Option.bind_some, Option.bind_some, if_pos rfl, if_pos rfl]
    have i0 : i ≠ 0 := fun h => by
      subst h
      rw [Nat.add_zero] at e1; rw [e1] at d1; exact absurd d1 (by decide)
    rw [if_neg (show ¬ nI i = 0 by rw [show (0 : Int32) = nI 0 from rfl, eqI (by omega) (by omega)]; exact i0)]
    exact ⟨v, i, s, t, by omega, by omega, rfl, rfl, hCs, h12, hfr⟩
  rw [e1, e2, Option.bind_some, Option.bind_some, if_neg n10, if_neg n10, hCs.2.2.2.2.1, hC.2.2.2.2.1, show (5 : Int32) = nI 5 from rfl, addI]
  by_cases him : i = 5
  · left
    left
    subst him
    rw [if_pos rfl, if_pos rfl]
    obtain ⟨g', w1, w2, w3⟩ := FLT.mk (g := t) (B := B) (AT := AT) (k := 2) (p := nI (pos + 5)) hCs.2.2.1 hCs.1.2 (by decide)
    refine ⟨0, f7_fail s AT 2, g', rfl, ?_, ?_, fun j a c d => (w3 j c).trans (hfr j a c d)⟩
    · rw [w1, Option.bind_some, if_neg (fun q => q (Or.inl rfl))]
    · show FLT (f7_failAt s AT 2 (s 3)) g'
      rw [hCs.2.1]; exact w2
  · right
    rw [if_neg (show ¬ nI i = nI 5 by rw [eqI (by omega) (by omega)]; exact him), if_neg (show ¬ nI (pos + i) = nI (pos + 5) by rw [eqI (by omega) (by omega)]; omega), here_c hX hCs, Option.bind_some, h2, h12]
    simp only [letv]
    rw [show (10 : Int32) = nI 10 from rfl, show (48 : Int32) = nI 48 from rfl, mulI, mulI, addI, addI, subI (by omega), subI (by omega), nI_s, show v * 10 + (48 + c) - 48 = 10 * v + c by omega, show 10 * v + (48 + c) - 48 = 10 * v + c by omega]
    have st := hCs.step (AT := AT) hlt2
    refine ⟨by omega, (f7_step s AT, nI (10 * v + c), nI (i + 1)), upd (upd t 12 (nI (10 * v + c))) 9 (upd t 12 (nI (10 * v + c)) 9 + 1), rfl, rfl, 10 * v + c, rfl, ?_, ?_, ?_, ?_⟩
    · rw [Nat.pow_succ]; omega
    · refine CUR.congr (g := upd t 9 (t 9 + 1)) st ?_ ?_
      · rw [upd_s, upd_s, upd_n (by decide)]
      · rw [upd_n (by decide), upd_n (by decide), upd_n (by decide)]
    · rw [upd_n (by decide), upd_s]
    · intro j a c d
      rw [upd_n a, upd_n d]; exact hfr j a c d
/-- a fault stays -/
def KP (fT' fT : Nat → Int32) : Prop := fT' 4 = fT 4 ∧ fT' 5 = fT 5 ∧ fT' 1 = fT 1
theorem KP.trans {a b c : Nat → Int32} (h : KP a b) (k : KP b c) : KP a c := ⟨h.1.trans k.1, h.2.1.trans k.2.1, h.2.2.trans k.2.2⟩
theorem KP.refl {a : Nat → Int32} : KP a a := ⟨rfl, rfl, rfl⟩
theorem KP.ne {a b : Nat → Int32} (h : KP a b) (k : b 4 ≠ 0) : a 4 ≠ 0 := by rw [h.1]; exact k
theorem KP.flt {a b g : Nat → Int32} (h : KP a b) (k : FLT b g) : FLT a g := by
  obtain ⟨h1, h2, h3⟩ := h
  unfold FLT
  rw [h1, h2, h3]; exact k
theorem step_k {fT : Nat → Int32} {AT : Nat → Nat → Int32} : KP (f7_step fT AT) fT := by
  have e : f7_step fT AT = upd fT 3 (fT 3 + 1) := rfl
  rw [e]
  exact ⟨upd_n (by decide), upd_n (by decide), upd_n (by decide)⟩
theorem fail_kp {fT : Nat → Int32} {AT : Nat → Nat → Int32} {k : Int32} (h : fT 4 ≠ 0) : KP (f7_fail fT AT k) fT := by
  show KP (f7_failAt fT AT k (fT 3)) fT
  rw [fail_k h]; exact KP.refl
theorem take_k {fT : Nat → Int32} {AT : Nat → Nat → Int32} {k : Int32} (h : fT 4 ≠ 0) : ∃ v fT', f7_take fT AT k = some (v, fT') ∧ KP fT' fT := by
  exact ⟨0, fT, take_dead h, KP.refl⟩
theorem isDigit_k (x : Int32) : f7_isDigit x = some 0 ∨ f7_isDigit x = some 1 := by
  unfold f7_isDigit
  rcases within_c x (A := 48) (B := 57) (a := 48) (b := 57) rfl rfl (by decide) (by decide) with ⟨h, _⟩ | ⟨h, _⟩
  · rw [h, if_neg (fun q => q (Or.inl rfl))]; exact Or.inl rfl
  · rw [h, if_neg (fun q => q (Or.inr rfl))]; exact Or.inr rfl
theorem number_k {fT : Nat → Int32} {AT : Nat → Nat → Int32} (h : fT 4 ≠ 0) : ∃ v fT', f7_number fT AT 5 = some (v, fT') ∧ KP fT' fT := by
  unfold f7_number
  refine loop_one (fun k (s : (Nat → Int32) × Int32 × Int32) => f7_number_l4 AT 5 k s.1 s.2.1 s.2.2) 6 (fun i s => ∃ f v, s = (f, v, nI i) ∧ KP f fT) (fun P => ∃ v fT', P = some (v, fT') ∧ KP fT' fT) (by decide) ?_ (fT, 0, 0) ⟨_, _, rfl, KP.refl⟩
  rintro k i s hi ⟨f, v, rfl, hk⟩
  have ea : ∀ k s x i, f7_number_l4 AT 5 (k + 1) s x i = f7_number_b4 AT 5 (f7_number_l4 AT 5 k) s x i := fun _ _ _ _ => rfl
  simp only [ea]
  have fin : ∀ f l2 l3, KP f fT → ∃ v fT', f7_number_b54 AT 5 f l2 l3 = some (v, fT') ∧ KP fT' fT := by
    intro f l2 l3 hk
    unfold f7_number_b54
    by_cases q : l3 = 0
    · rw [if_pos q]; exact ⟨_, _, rfl, (fail_kp (hk.ne h)).trans hk⟩
    · rw [if_neg q]; exact ⟨_, _, rfl, hk⟩
  unfold f7_number_b4
  by_cases h6 : i = 6
  · subst h6
    left
    rw [if_pos (show (5 : Int32) < nI 6 by decide)]
    exact fin _ _ _ hk
  rw [if_neg (show ¬ 5 < nI i by rw [show (5 : Int32) = nI 5 from rfl, ltI (by omega) (by omega)]; omega)]
  rcases isDigit_k (f7_look f AT) with e | e
  · left
    rw [e, Option.bind_some, if_pos rfl]
    exact fin _ _ _ hk
  rw [e, Option.bind_some, if_neg n10]
  by_cases h5 : nI i = 5
  · left
    rw [if_pos h5]
    exact ⟨_, _, rfl, (fail_kp (hk.ne h)).trans hk⟩
  right
  rw [if_neg h5, nI_s]
  simp only [letv]
  exact ⟨by omega, (f7_step f AT, v * 10 + f7_look f AT - 48, nI (i + 1)), rfl, _, _, rfl, (step_k (AT := AT)).trans hk⟩
theorem order_k (f : Nat → Int32) (A : Nat → Nat → Int32) (x y : Int32) : ∃ A' f', f2_order f A x y = some (f 7, A', f') ∧ f' 7 = f 7 + 1 := by
  unfold f2_order
  simp only [letv]
  refine ⟨updA (updA A 0 (f9_put 240 (A 0) (f 7) x)) 1 (f9_put 240 (updA A 0 (f9_put 240 (A 0) (f 7) x) 1) (f 7) y), upd f 7 (f 7 + 1), ?_, upd_s⟩
  rw [upd_s, show f 7 + 1 - 1 = f 7 from Int32.add_sub_cancel _ _]
