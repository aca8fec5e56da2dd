/-! texts: where class and reference read -/
def chr (n : Nat) (b : Nat → Nat) (pos : Nat) : Int32 := if pos < n then nI (b pos) else -1
def CUR (n pos : Nat) (fT g : Nat → Int32) : Prop := (fT 2 = nI n ∧ fT 1 = 0) ∧ fT 3 = nI pos ∧ fT 4 = 0 ∧ g 10 = nI n ∧ g 9 = nI pos ∧ pos ≤ n
/-- a fault, the same one -/
def FLT (fT g : Nat → Int32) : Prop := fT 4 ≠ 0 ∧ g 11 = -1000 * fT 4 - fT 5 ∧ fT 1 = 0
def TXT (n : Nat) (b : Nat → Nat) (AT B : Nat → Nat → Int32) : Prop := n ≤ 260 ∧ (∀ i, b i < 256) ∧ (∀ i, i < n → AT 0 i = nI (b i)) ∧ ∀ i, i < n → B 7 i &&& 255 = nI (b i)
theorem TXT.congr {n : Nat} {b : Nat → Nat} {AT B B' : Nat → Nat → Int32} (h : TXT n b AT B) (h7 : B' 7 = B 7) : TXT n b AT B' := by
  unfold TXT
  rw [h7]; exact h
theorem tlook_c {n pos : Nat} {b : Nat → Nat} {fT g : Nat → Int32} {AT B : Nat → Nat → Int32} (hX : TXT n b AT B) (hC : CUR n pos fT g) : f7_look fT AT = chr n b pos := by
  obtain ⟨x1, x2, x3, x4⟩ := hX
  obtain ⟨c1, c2, c3, c4, c5, c6⟩ := hC
  unfold f7_look chr
  rw [c1.1, c2]
  by_cases h : pos < n
  · rw [if_pos h, if_neg (by rw [leI (by omega) (by omega)]; omega), at_nI (by omega) (by decide), x3 pos h]
  · rw [if_neg h, if_pos (by rw [leI (by omega) (by omega)]; omega)]
theorem here_c {n pos : Nat} {b : Nat → Nat} {fT g : Nat → Int32} {AT B : Nat → Nat → Int32} (hX : TXT n b AT B) (hC : CUR n pos fT g) : f10_here g B = some (chr n b pos) := by
  obtain ⟨x1, x2, x3, x4⟩ := hX
  obtain ⟨c1, c2, c3, c4, c5, c6⟩ := hC
  unfold f10_here chr
  rw [c4, c5]
  by_cases h : pos < n
  · rw [if_pos h, if_neg (by rw [leI (by omega) (by omega)]; omega), if_neg (nI_in (by omega) (by decide)), gx_nI (by omega), x4 pos h]
  · rw [if_neg h, if_pos (by rw [leI (by omega) (by omega)]; omega)]
theorem chr_lt {n pos c : Nat} {b : Nat → Nat} (h : chr n b pos = nI c) (hc : c < 1000) : pos < n := by
  unfold chr at h
  by_cases q : pos < n
  · exact q
  · rw [if_neg q, show (-1 : Int32) = -nI 1 from rfl, neg_eq (by omega) (by omega) (by omega)] at h
    exact h.elim
theorem chr_end {n pos : Nat} {b : Nat → Nat} (hb : ∀ i, b i < 256) : chr n b pos = -1 ↔ ¬ pos < n := by
  unfold chr
  by_cases q : pos < n
  · rw [if_pos q, show (-1 : Int32) = -nI 1 from rfl, eq_neg (by omega) (by omega) (by have := hb pos; omega)]
    exact ⟨fun h => h.elim, fun h => absurd q h⟩
  · rw [if_neg q]
    exact ⟨fun _ => q, fun _ => rfl⟩
theorem CUR.step {n pos : Nat} {fT g : Nat → Int32} {AT : Nat → Nat → Int32} (h : CUR n pos fT g) (hlt : pos < n) : CUR n (pos + 1) (f7_step fT AT) (upd g 9 (g 9 + 1)) := by
  obtain ⟨c1, c2, c3, c4, c5, c6⟩ := h
  refine ⟨⟨?_, ?_⟩, ?_, ?_, ?_, ?_, hlt⟩
  · show upd fT 3 (fT 3 + 1) 2 = _
    rw [upd_n (by decide)]; exact c1.1
  · show upd fT 3 (fT 3 + 1) 1 = _
    rw [upd_n (by decide)]; exact c1.2
  · show upd fT 3 (fT 3 + 1) 3 = _
    rw [upd_s, c2, nI_s]
  · show upd fT 3 (fT 3 + 1) 4 = _
    rw [upd_n (by decide)]; exact c3
  · rw [upd_n (by decide)]; exact c4
  · rw [upd_s, c5, nI_s]
theorem CUR.congr {n pos : Nat} {fT g g' : Nat → Int32} (h : CUR n pos fT g) (h9 : g' 9 = g 9) (h10 : g' 10 = g 10) : CUR n pos fT g' := by
  unfold CUR
  rw [h9, h10]; exact h
theorem fail_c {fT : Nat → Int32} {AT : Nat → Nat → Int32} {k p : Int32} (h : fT 4 = 0) : f7_failAt fT AT k p = upd (upd fT 4 k) 5 p := by
  unfold f7_failAt
  rw [if_pos h]
  rfl
theorem fail_k {fT : Nat → Int32} {AT : Nat → Nat → Int32} {k p : Int32} (h : fT 4 ≠ 0) : f7_failAt fT AT k p = fT := by
  unfold f7_failAt
  rw [if_neg h]
theorem FLT.mk {fT g : Nat → Int32} {AT B : Nat → Nat → Int32} {k p : Int32} (h : fT 4 = 0) (h1 : fT 1 = 0) (hk : k ≠ 0) : ∃ g', f10_wrongAt g B k p = some (0, g') ∧ FLT (f7_failAt fT AT k p) g' ∧ ∀ j, j ≠ 11 → g' j = g j := by
  refine ⟨upd g 11 (-1000 * k - p), rfl, ?_, fun j hj => upd_n hj⟩
  rw [fail_c h]
  refine ⟨?_, ?_, ?_⟩
  · rw [upd_n (by decide), upd_s]; exact hk
  · rw [upd_s, upd_s, upd_n (by decide), upd_s]
  · rw [upd_n (by decide), upd_n (by decide)]; exact h1
theorem fine_c {fT : Nat → Int32} {AT : Nat → Nat → Int32} (h : fT 4 = 0) : f7_isFine fT AT = 1 := by
  unfold f7_isFine; rw [if_pos h]
theorem fine_n {fT : Nat → Int32} {AT : Nat → Nat → Int32} (h : fT 4 ≠ 0) : f7_isFine fT AT = 0 := by
  unfold f7_isFine; rw [if_neg h]
theorem fail_d {fT : Nat → Int32} {AT : Nat → Nat → Int32} {k : Int32} (h : fT 4 ≠ 0) : f7_fail fT AT k = fT := by
  show f7_failAt fT AT k (fT 3) = fT
  exact fail_k h
/-- behind a fault nothing is taken any more -/
theorem take_dead {fT : Nat → Int32} {AT : Nat → Nat → Int32} {k : Int32} (h : fT 4 ≠ 0) : f7_take fT AT k = some (0, fT) := by
  unfold f7_take f7_take_b15
  simp only [letv]
  rw [fine_n h, if_pos rfl, fail_d h]
theorem take_fine {fT : Nat → Int32} {AT : Nat → Nat → Int32} {k : Int32} (h : fT 4 = 0) : f7_take fT AT k = if f7_look fT AT = k then letv (f7_step fT AT) (fun z => some (1, z)) else letv (f7_fail fT AT 1) (fun z => some (0, z)) := by
  unfold f7_take f7_take_b15
  rw [fine_c h, if_neg n10]
theorem goesOn_dead {fT : Nat → Int32} {AT : Nat → Nat → Int32} (h : fT 4 ≠ 0) : f7_goesOn fT AT = some (0, fT) := by
  unfold f7_goesOn
  rw [take_dead h]
  by_cases q : f7_look fT AT = -1
  · rw [if_pos q]
  · rw [if_neg q, Option.bind_some, if_pos rfl]
/-- a letter a to p -/
theorem letter_c {n : Nat} {b : Nat → Nat} (hb : ∀ i, b i < 256) (pos : Nat) : (f7_placeOf (chr n b pos) = -1 ∧ f10_in (chr n b pos - 97) 0 15 = 0) ∨ ∃ p, p < 16 ∧ chr n b pos = nI (97 + p) ∧ f7_placeOf (chr n b pos) = nI p ∧ chr n b pos - 97 = nI p ∧ f10_in (chr n b pos - 97) 0 15 = 1 := by
  have s97 : (97 : Int32) = nI 97 := rfl
  unfold f7_placeOf
  rw [in_eq]
  rcases within_c (chr n b pos) (A := 97) (B := 112) (a := 97) (b := 112) rfl rfl (by decide) (by decide) with ⟨h, hno⟩ | ⟨h, j, h1, h2, h3⟩
  · left
    refine ⟨if_pos h, within_none (a := 0) (b := 15) rfl rfl (by decide) (by decide) (fun j _ hj e => ?_)⟩
    exact hno (j + 97) (by omega) (by omega) (sub_eq e)
  · right
    have e : nI j - 97 = nI (j - 97) := by rw [s97]; exact subI h1
    refine ⟨j - 97, by omega, by rw [h3]; congr 1; omega, ?_, by rw [h3, e], ?_⟩
    · rw [h, if_neg n10, h3, e]
    · rw [h3, e, show (0 : Int32) = nI 0 from rfl, show (15 : Int32) = nI 15 from rfl, withinI (by omega) (by omega) (by omega), if_pos (by omega)]
      rfl
theorem digit_c {n pos : Nat} {b : Nat → Nat} {fT g : Nat → Int32} {AT B : Nat → Nat → Int32} (hX : TXT n b AT B) (hC : CUR n pos fT g) : (f7_isDigit (chr n b pos) = some 0 ∧ f10_isDigit g B = some 0) ∨ ∃ d, d < 10 ∧ chr n b pos = nI (48 + d) ∧ pos < n ∧ f7_isDigit (chr n b pos) = some 1 ∧ f10_isDigit g B = some 1 := by
  unfold f7_isDigit f10_isDigit
  rw [here_c hX hC, Option.bind_some, Option.bind_some]
  rcases within_c (chr n b pos) (A := 48) (B := 57) (a := 48) (b := 57) rfl rfl (by decide) (by decide) with ⟨h, hno⟩ | ⟨h, j, h1, h2, h3⟩
  · left
    rw [h]
    refine ⟨if_neg (fun q => q (Or.inl rfl)), ?_⟩
    unfold f9_within at h
    by_cases q : chr n b pos < 48
    · rw [if_pos q]
    · rw [if_neg q] at h
      rw [if_neg q]
      by_cases q2 : 57 < chr n b pos
      · rw [if_pos q2]
      · rw [if_neg q2] at h
        exact absurd h (by decide)
  · right
    rw [h]
    refine ⟨j - 48, by omega, by rw [h3]; congr 1; omega, chr_lt h3 (by omega), if_neg (fun q => q (Or.inr rfl)), ?_⟩
    rw [h3, if_neg (show ¬ nI j < 48 by rw [show (48 : Int32) = nI 48 from rfl, ltI (by omega) (by omega)]; omega), if_neg (show ¬ 57 < nI j by rw [show (57 : Int32) = nI 57 from rfl, ltI (by omega) (by omega)]; omega)]
theorem amount_c {n pos most : Nat} {b : Nat → Nat} {fT g : Nat → Int32} {AT B : Nat → Nat → Int32} (hX : TXT n b AT B) (hC : CUR n pos fT g) (hm0 : 1 ≤ most) (hm : most ≤ 3) :
    (∃ v fT' g', f7_number fT AT (nI most) = some (v, fT') ∧ f10_readsAmount g B (nI most) = some (0, g') ∧ FLT fT' g' ∧ ∀ j, j ≠ 9 → j ≠ 11 → j ≠ 12 → g' j = g j) ∨
    (∃ v d fT' g', 1 ≤ d ∧ v < 10 ^ most ∧ f7_number fT AT (nI most) = some (nI v, fT') ∧ f10_readsAmount g B (nI most) = some (1, g') ∧ CUR n (pos + d) fT' g' ∧ g' 12 = nI v ∧ ∀ j, j ≠ 9 → j ≠ 11 → j ≠ 12 → g' j = g j) := by
  have hn := hX.1
  have hpn := hC.2.2.2.2.2
  unfold f7_number f10_readsAmount
  obtain ⟨N, hN⟩ : ∃ N, NF = N + 1 := ⟨NF - 1, by have := NF_ge; omega⟩
  rcases digit_c hX hC with ⟨d1, d2⟩ | ⟨d, hd, h1, hlt, d1, d2⟩
  · left
    rw [d2, Option.bind_some, if_pos rfl, hN]
    obtain ⟨g', w1, w2, w3⟩ := FLT.mk (g := g) (B := B) (AT := AT) (k := 1) (p := g 9) hC.2.2.1 hC.1.2 (by decide)
    refine ⟨0, f7_fail fT AT 1, g', ?_, ?_, ?_, fun j a c d => w3 j c⟩
    · show f7_number_b4 AT (nI most) (f7_number_l4 AT (nI most) N) fT 0 0 = _
      unfold f7_number_b4 f7_number_b54
      rw [if_neg (show ¬ nI most < 0 from nI_pos (by omega)), tlook_c hX hC, d1, Option.bind_some, if_pos rfl, if_pos rfl]
      rfl
    · rw [w1, Option.bind_some, if_neg (fun q => q (Or.inl rfl))]
    · show FLT (f7_failAt fT AT 1 (fT 3)) g'
      rw [hC.2.1, ← hC.2.2.2.2.1]; exact w2
  rw [d2, Option.bind_some, if_neg n10]
  simp only [letv]
  have hC0 : CUR n pos fT (upd g 12 0) := hC.congr (upd_n (by decide)) (upd_n (by decide))
  refine loop_rel (fun k (s : (Nat → Int32) × Int32 × Int32) => f7_number_l4 AT (nI most) k s.1 s.2.1 s.2.2) (fun k (s : (Nat → Int32)) => f10_readsAmount_l27 B (nI most) k s (g 9)) most
    (fun i s t => ∃ v, s = (s.1, nI v, nI i) ∧ v < 10 ^ i ∧ CUR n (pos + i) s.1 t ∧ t 12 = nI v ∧ ∀ j, j ≠ 9 → j ≠ 11 → j ≠ 12 → t j = g j)
    (fun P Q => (∃ v fT' g', P = some (v, fT') ∧ Q = some (0, g') ∧ FLT fT' g' ∧ ∀ j, j ≠ 9 → j ≠ 11 → j ≠ 12 → g' j = g j) ∨ (∃ v d fT' g', 1 ≤ d ∧ v < 10 ^ most ∧ P = some (nI v, fT') ∧ Q = some (1, g') ∧ CUR n (pos + d) fT' g' ∧ g' 12 = nI v ∧ ∀ j, j ≠ 9 → j ≠ 11 → j ≠ 12 → g' j = g j)) (by omega) ?_ (fT, 0, 0) (upd g 12 0) ⟨0, rfl, by decide, hC0, upd_s, fun j a c d => upd_n d⟩
  rintro k k' i ⟨s, x, y⟩ t hi ⟨v, he, hv, hCs, h12, hfr⟩
  injection he with _ he
  injection he with he1 he2
  subst he1 he2
  have ea : ∀ k s x i, f7_number_l4 AT (nI most) (k + 1) s x i = f7_number_b4 AT (nI most) (f7_number_l4 AT (nI most) k) s x i := fun _ _ _ _ => rfl
  have eb : ∀ k t, f10_readsAmount_l27 B (nI most) (k + 1) t (g 9) = f10_readsAmount_b27 B (nI most) (f10_readsAmount_l27 B (nI most) k) t (g 9) := fun _ _ => rfl
  simp only [ea, eb]
  replace hCs : CUR n (pos + i) s t := hCs
  have p10 : 10 ^ i ≤ 10 ^ most := Nat.pow_le_pow_right (by decide) hi
  have pm : 10 ^ most ≤ 10 ^ 3 := Nat.pow_le_pow_right (by decide) hm
  have pin := hCs.2.2.2.2.2
  unfold f7_number_b4 f7_number_b54 f10_readsAmount_b27
  rw [if_neg (show ¬ nI most < nI i by rw [ltI (by omega) (by omega)]; omega), tlook_c hX hCs]
  rcases digit_c hX hCs with ⟨e1, e2⟩ | ⟨c, hc, h2, hlt2, e1, e2⟩
  · left
    right
    rw [e1, e2, Option.bind_some, Option.bind_some, if_pos rfl, if_pos rfl]
    have i0 : i ≠ 0 := fun h => by
      subst h
      rcases digit_c hX hC with ⟨f1, _⟩ | ⟨_, _, _, _, f1, _⟩
      · rw [d1] at f1; exact absurd f1 (by decide)
      · rw [Nat.add_zero] at e1; rw [e1] at f1; exact absurd f1 (by decide)
    rw [if_neg (show ¬ nI i = 0 by rw [show (0 : Int32) = nI 0 from rfl, eqI (by omega) (by omega)]; exact i0)]
    exact ⟨v, i, s, t, by omega, by omega, rfl, rfl, hCs, h12, hfr⟩
  rw [e1, e2, Option.bind_some, Option.bind_some, if_neg n10, if_neg n10, hCs.2.2.2.2.1, hC.2.2.2.2.1, addI]
  by_cases him : i = most
  · left
    left
    subst him
    rw [if_pos rfl, if_pos rfl]
    obtain ⟨g', w1, w2, w3⟩ := FLT.mk (g := t) (B := B) (AT := AT) (k := 2) (p := nI (pos + i)) hCs.2.2.1 hCs.1.2 (by decide)
    refine ⟨0, f7_fail s AT 2, g', rfl, ?_, ?_, fun j a c d => (w3 j c).trans (hfr j a c d)⟩
    · rw [w1, Option.bind_some, if_neg (fun q => q (Or.inl rfl))]
    · show FLT (f7_failAt s AT 2 (s 3)) g'
      rw [hCs.2.1]; exact w2
  · right
    rw [if_neg (show ¬ nI i = nI most by rw [eqI (by omega) (by omega)]; exact him), if_neg (show ¬ nI (pos + i) = nI (pos + most) by rw [eqI (by omega) (by omega)]; omega), here_c hX hCs, Option.bind_some, h2, h12]
    simp only [letv]
    rw [show (10 : Int32) = nI 10 from rfl, show (48 : Int32) = nI 48 from rfl, mulI, mulI, addI, addI, subI (by omega), subI (by omega), nI_s, show v * 10 + (48 + c) - 48 = 10 * v + c by omega, show 10 * v + (48 + c) - 48 = 10 * v + c by omega]
    have st := hCs.step (AT := AT) hlt2
    refine ⟨by omega, (f7_step s AT, nI (10 * v + c), nI (i + 1)), upd (upd t 12 (nI (10 * v + c))) 9 (upd t 12 (nI (10 * v + c)) 9 + 1), rfl, rfl, 10 * v + c, rfl, ?_, ?_, ?_, ?_⟩
    · rw [Nat.pow_succ]; omega
    · refine CUR.congr (g := upd t 9 (t 9 + 1)) st ?_ ?_
      · rw [upd_s, upd_s, upd_n (by decide)]
      · rw [upd_n (by decide), upd_n (by decide), upd_n (by decide)]
    · rw [upd_n (by decide), upd_s]
    · intro j a c d
      rw [upd_n a, upd_n d]; exact hfr j a c d
