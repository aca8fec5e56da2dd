/-! A BEAT -/
def STP (l : Nat) (X Y : Nat → Int32) : Prop := l ≤ 48 ∧ ∀ i, i < l → X i = Y i ∧ (X i = -1 ∨ ∃ v, v < 16 ∧ X i = nI v)
/-- what of the reference stays while a BEAT is read: B, g before; op rounds are open -/
def BFR (op : Nat) (B' B : Nat → Nat → Int32) (g' g : Nat → Int32) : Prop := (∀ j, j ≠ 31 → j ≠ 32 → j ≠ 33 → j ≠ 34 → B' j = B j) ∧ (∀ j i, 32 ≤ j → j ≤ 34 → i < op → B' j i = B j i) ∧ ∀ j, j ≠ 9 → j ≠ 11 → j ≠ 35 → j ≠ 36 → j ≠ 37 → j ≠ 38 → g' j = g j
theorem BFR.refl {op : Nat} {B : Nat → Nat → Int32} {g : Nat → Int32} : BFR op B B g g := ⟨fun _ _ _ _ _ => rfl, fun _ _ _ _ _ => rfl, fun _ _ _ _ _ _ _ => rfl⟩
theorem BFR.trans {op : Nat} {B B' B'' : Nat → Nat → Int32} {g g' g'' : Nat → Int32} (h : BFR op B'' B' g'' g') (k : BFR op B' B g' g) : BFR op B'' B g'' g :=
  ⟨fun j a b c d => (h.1 j a b c d).trans (k.1 j a b c d), fun j i a b c => (h.2.1 j i a b c).trans (k.2.1 j i a b c), fun j a b c d e f => (h.2.2 j a b c d e f).trans (k.2.2 j a b c d e f)⟩
theorem BFR.mono {op op' : Nat} {B B' : Nat → Nat → Int32} {g g' : Nat → Int32} (h : BFR op' B' B g' g) (ho : op ≤ op') : BFR op B' B g' g := ⟨h.1, fun j i a b c => h.2.1 j i a b (by omega), h.2.2⟩
theorem repeat_c {n pos l fr times : Nat} {A AT B : Nat → Nat → Int32} {f fT g : Nat → Int32} {first : Int32} (hC : CUR n pos fT g) (hS : STP l (A 0) (B 31)) (h1 : f 1 = nI l) (h35 : g 35 = nI l) (hfr : fr ≤ l) (ht : 1 ≤ times) (ht9 : times ≤ 9) :
    (∃ A' f' fT' B' g', f0_repeat f A fT AT (nI fr) (nI times - 1) first = some (A', f', fT') ∧ f10_repeats g B (nI fr) (nI times) first = some (0, B', g') ∧ FLT fT' g' ∧ BFR 2 B' B g' g) ∨
    (∃ A' f' B' g' l', f0_repeat f A fT AT (nI fr) (nI times - 1) first = some (A', f', fT) ∧ f10_repeats g B (nI fr) (nI times) first = some (1, B', g') ∧ CUR n pos fT g' ∧ g' 36 = g 36 ∧ l ≤ l' ∧ STP l' (A' 0) (B' 31) ∧ f' 1 = nI l' ∧ g' 35 = nI l' ∧ BFR 2 B' B g' g) := by
  obtain ⟨hl, hst⟩ := hS
  have mul : (l - fr) * times = (l - fr) * (times - 1) + (l - fr) := by
    obtain ⟨t, rfl⟩ : ∃ t, times = t + 1 := ⟨times - 1, by omega⟩
    rw [Nat.mul_add, Nat.mul_one]; rfl
  have mb : (l - fr) * times ≤ 48 * 9 := Nat.mul_le_mul (by omega) ht9
  unfold f0_repeat f10_repeats
  rw [fine_c hC.2.2.1, if_neg n10, h1, h35, show (1 : Int32) = nI 1 from rfl, show (48 : Int32) = nI 48 from rfl, subI ht, subI hfr, mulI, mulI, addI, addI]
  generalize hm : l - fr = m at mul mb
  by_cases h48 : fr + m * times ≤ 48
  · right
    rw [if_pos (show nI (l + m * (times - 1)) ≤ nI 48 by rw [leI (by omega) (by omega)]; omega), if_pos (show nI (fr + m * times) ≤ nI 48 by rw [leI (by omega) (by omega)]; exact h48)]
    have key := loop_rel (fun k (s : (Nat → Nat → Int32) × (Nat → Int32) × Int32) => f0_repeat_l42 AT (nI fr) (nI (times - 1)) first k s.1 s.2.1 fT (nI m) s.2.2) (fun k (t : (Nat → Nat → Int32) × Int32) => f10_repeats_l31 (nI fr) (nI times) first k t.1 g (nI m) t.2) (m * (times - 1))
      (fun i s t => ∃ A' f' B', s = (A', f', nI i) ∧ t = (B', nI (m + i)) ∧ STP (l + i) (A' 0) (B' 31) ∧ f' 1 = nI (l + i) ∧ ∀ j, j ≠ 31 → B' j = B j)
      (fun P Q => ∃ A' f' B', P = some (A', f', fT) ∧ Q = some (1, B', upd g 35 (nI (fr + m * times))) ∧ STP (fr + m * times) (A' 0) (B' 31) ∧ f' 1 = nI (fr + m * times) ∧ ∀ j, j ≠ 31 → B' j = B j) (by omega) (by
        rintro k k' i s t hi ⟨A1, f1, B1, rfl, rfl, hS1, hf1, hfr1⟩
        have ea : ∀ k A f i, f0_repeat_l42 AT (nI fr) (nI (times - 1)) first (k + 1) A f fT (nI m) i = f0_repeat_b42 AT (nI fr) (nI (times - 1)) first (f0_repeat_l42 AT (nI fr) (nI (times - 1)) first k) A f fT (nI m) i := fun _ _ _ _ => rfl
        have eb : ∀ k B i, f10_repeats_l31 (nI fr) (nI times) first (k + 1) B g (nI m) i = f10_repeats_b31 (nI fr) (nI times) first (f10_repeats_l31 (nI fr) (nI times) first k) B g (nI m) i := fun _ _ _ => rfl
        simp only [ea, eb]
        unfold f0_repeat_b42 f10_repeats_b31
        rw [mulI, mulI, addI]
        by_cases h : m * (times - 1) ≤ i
        · left
          have ei : i = m * (times - 1) := by omega
          rw [if_pos (show nI (m * (times - 1)) ≤ nI i by rw [leI (by omega) (by omega)]; exact h), if_pos (show nI (m * times) ≤ nI (m + i) by rw [leI (by omega) (by omega)]; omega)]
          simp only [letv]
          have el : l + i = fr + m * times := by omega
          rw [el] at hS1 hf1
          exact ⟨A1, f1, B1, rfl, rfl, hS1, hf1, hfr1⟩
        right
        have m0 : m ≠ 0 := fun e => by subst e; omega
        refine ⟨by omega, ?_⟩
        rw [if_neg (show ¬ nI (m * (times - 1)) ≤ nI i by rw [leI (by omega) (by omega)]; exact h), if_neg (show ¬ nI (m * times) ≤ nI (m + i) by rw [leI (by omega) (by omega)]; omega), addI, show nI (fr + (m + i)) - nI m = nI (fr + i) by rw [subI (by omega)]; congr 1; omega, if_neg (nI_in (show fr + i < 48 by omega) (by decide)), if_neg (nI_in (show fr + (m + i) < 48 by omega) (by decide)), hf1, gx_nI (by omega), ux_nI (by omega), subI (by omega), nI_s, nI_s]
        simp only [letv]
        rw [put_nI (by omega) (by decide), at_nI (by omega) (by decide), nI_s, show l + i - m = fr + i by omega, show fr + (m + i) = l + i by omega]
        obtain ⟨q1, q2⟩ := hS1.2 (fr + i) (by omega)
        refine ⟨(updA A1 0 (upd (A1 0) (l + i) (A1 0 (fr + i))), upd f1 1 (nI (l + i + 1)), nI (i + 1)), (updA B1 31 (upd (B1 31) (l + i) (B1 31 (fr + i))), nI (m + i + 1)), rfl, rfl, _, _, _, rfl, rfl, ⟨by omega, fun x hx => ?_⟩, upd_s, fun j hj => (updA_n hj).trans (hfr1 j hj)⟩
        show updA A1 0 (upd (A1 0) (l + i) (A1 0 (fr + i))) 0 x = updA B1 31 (upd (B1 31) (l + i) (B1 31 (fr + i))) 31 x ∧ (updA A1 0 (upd (A1 0) (l + i) (A1 0 (fr + i))) 0 x = -1 ∨ ∃ v, v < 16 ∧ updA A1 0 (upd (A1 0) (l + i) (A1 0 (fr + i))) 0 x = nI v)
        rw [updA_s, updA_s]
        by_cases e : x = l + i
        · subst e
          rw [upd_s, upd_s]
          exact ⟨q1, q2⟩
        · rw [upd_n e, upd_n e]
          exact hS1.2 x (by omega)) (A, f, 0) (B, nI m) ⟨A, f, B, rfl, rfl, ⟨hl, hst⟩, h1, fun _ _ => rfl⟩
    obtain ⟨A', f', B', k1, k2, k3, k4, k5⟩ := key
    refine ⟨A', f', B', upd g 35 (nI (fr + m * times)), fr + m * times, k1, k2, hC.congr (upd_n (by decide)) (upd_n (by decide)), upd_n (by decide), ?_, k3, k4, upd_s, fun j a b c d => k5 j a, fun j i a b c => by rw [k5 j (by omega)], fun j a b c d e f => upd_n c⟩
    have : m ≤ m * times := Nat.le_mul_of_pos_right m (by omega)
    omega
  · left
    rw [if_neg (show ¬ nI (l + m * (times - 1)) ≤ nI 48 by rw [leI (by omega) (by omega)]; omega), if_neg (show ¬ nI (fr + m * times) ≤ nI 48 by rw [leI (by omega) (by omega)]; exact h48)]
    obtain ⟨g', w1, w2, w3⟩ := FLT.mk (g := g) (B := B) (AT := AT) (k := 6) (p := first) hC.2.2.1 hC.1.2 (by decide)
    refine ⟨A, f, f7_failAt fT AT 6 first, B, g', rfl, wrong_b (P := none) w1, w2, fun _ _ _ _ _ => rfl, fun _ _ _ _ _ => rfl, fun j a b c d e f => w3 j b⟩
/-- the reference, before a step: it reads how many times, then what opens and the step -/
noncomputable def S0 (c x : Int32) (i k : Nat) (B : Nat → Nat → Int32) (g : Nat → Int32) : Option (Int32 × (Nat → Nat → Int32) × (Nat → Int32)) := ((f10_readsTimes g B).bind fun q => f10_readsStep_l4 i B q).bind fun q => f10_beat_l50 c x k q.2.1 q.2.2 q.1
/-- behind a step: what closes -/
noncomputable def S2 (c x : Int32) (i k : Nat) (B : Nat → Nat → Int32) (g : Nat → Int32) : Option (Int32 × (Nat → Nat → Int32) × (Nat → Int32)) := (f10_readsStep_l218 i B g).bind fun q => f10_beat_l50 c x k q.2.1 q.2.2 q.1
theorem times_c {n pos : Nat} {b : Nat → Nat} {AT B : Nat → Nat → Int32} {fT g : Nat → Int32} (hX : TXT n b AT B) (hC : CUR n pos fT g) : ∃ (fT' g' : Nat → Int32) (pos' t : Nat), f10_readsTimes g B = some g' ∧ pos ≤ pos' ∧ 1 ≤ t ∧ t ≤ 9 ∧ CUR n pos' fT' g' ∧ g' 37 = nI pos ∧ g' 38 = nI t ∧ (∀ j, j ≠ 9 → j ≠ 37 → j ≠ 38 → g' j = g j) ∧ ((f9_within (chr n b pos) 50 57 = 0 ∧ fT' = fT ∧ t = 1) ∨ (f9_within (chr n b pos) 50 57 = 1 ∧ fT' = f7_step fT AT ∧ chr n b pos - 48 = nI t)) := by
  unfold f10_readsTimes
  simp only [letv]
  have hC1 : CUR n pos fT (upd (upd g 37 (g 9)) 38 1) := hC.congr (by rw [upd_n (by decide), upd_n (by decide)]) (by rw [upd_n (by decide), upd_n (by decide)])
  rw [here_c hX hC1, Option.bind_some, Option.bind_some, in_eq]
  rcases within_c (chr n b pos) (A := 50) (B := 57) (a := 50) (b := 57) rfl rfl (by decide) (by decide) with ⟨h, _⟩ | ⟨h, j, h1, h2, h3⟩
  · rw [if_pos h]
    refine ⟨fT, _, pos, 1, rfl, Nat.le_refl _, by omega, by omega, hC1, ?_, upd_s, fun j a b c => by rw [upd_n c, upd_n b], Or.inl ⟨h, rfl, rfl⟩⟩
    rw [upd_n (by decide), upd_s]; exact hC.2.2.2.2.1
  · have e : nI j - 48 = nI (j - 48) := subI (a := j) (b := 48) (by omega)
    have hlt := chr_lt h3 (by omega)
    rw [h, if_neg n10, h3, e]
    have st := hC.step (AT := AT) hlt
    refine ⟨f7_step fT AT, _, pos + 1, j - 48, rfl, by omega, by omega, by omega, ?_, ?_, ?_, fun i a b c => ?_, Or.inr ⟨rfl, rfl, rfl⟩⟩
    · refine CUR.congr (g := upd g 9 (g 9 + 1)) st ?_ ?_
      · rw [upd_s, upd_s, upd_n (by decide), upd_n (by decide), upd_n (by decide)]
      · rw [upd_n (by decide), upd_n (by decide), upd_n (by decide), upd_n (by decide), upd_n (by decide)]
    · rw [upd_n (by decide), upd_n (by decide), upd_n (by decide), upd_s]; exact hC.2.2.2.2.1
    · rw [upd_n (by decide), upd_s]
    · rw [upd_n a, upd_n c, upd_n c, upd_n b]
