/-! the reference's laying of watches -/
def hI (m : Nat) : Int32 := if m = 0 then -1 else nI (m - 1)
theorem hI_s (m : Nat) : hI m + 1 = nI m := by
  unfold hI
  by_cases e : m = 0
  · subst e; rfl
  · rw [if_neg e, nI_s, show m - 1 + 1 = m by omega]
theorem max_c {m v : Nat} (hm : m ≤ 1000) (hv : v ≤ 1000) : f10_max (hI m) (nI v) = hI (if m ≤ v then v + 1 else m) := by
  unfold f10_max hI
  by_cases e : m = 0
  · subst e
    rw [if_pos rfl, if_pos (show (-1 : Int32) ≤ nI v by rw [show (-1 : Int32) = -nI 1 from rfl, neg_le (by omega) (by omega)]; trivial), if_pos (Nat.zero_le v), if_neg (by omega), Nat.add_sub_cancel]
  · rw [if_neg e]
    by_cases h : m ≤ v
    · rw [if_pos h, if_pos (by rw [leI (by omega) (by omega)]; omega), if_neg (by omega), Nat.add_sub_cancel]
    · rw [if_neg h, if_neg e]
      by_cases h2 : m - 1 ≤ v
      · rw [if_pos (by rw [leI (by omega) (by omega)]; exact h2)]
        congr 1
        omega
      · rw [if_neg (by rw [leI (by omega) (by omega)]; exact h2)]
theorem hs_le {c : Nat → Nat} : ∀ k, (∀ i, i < k → c i ≤ 16) → hs c k ≤ 17 := by
  intro k
  induction k with
  | zero => intro _; exact Nat.zero_le _
  | succ k ih =>
    intro h
    have h1 := ih (fun i hi => h i (by omega))
    have h2 := h k (by omega)
    show (if hs c k ≤ c k then c k + 1 else hs c k) ≤ 17
    split <;> omega
theorem highest_c {g : Nat → Int32} {B : Nat → Nat → Int32} {c : Nat → Nat} {k : Nat} (hk : k ≤ 16) (hc : ∀ i, i < k → B 48 i = nI (c i) ∧ c i ≤ 16) : f10_highestOf g B (nI k) = some (hI (hs c k)) := by
  unfold f10_highestOf
  refine loop_one (fun n (x : Int32 × Int32) => f10_highestOf_l4 g B (nI k) n x.1 x.2) k (fun j x => x = (hI (hs c j), nI j)) (fun P => P = some (hI (hs c k))) (by omega) ?_ (-1, 0) rfl
  rintro n j x hj rfl
  have ea : ∀ n x i, f10_highestOf_l4 g B (nI k) (n + 1) x i = f10_highestOf_b4 g B (nI k) (f10_highestOf_l4 g B (nI k) n) x i := fun _ _ _ => rfl
  simp only [ea]
  unfold f10_highestOf_b4
  by_cases h : k ≤ j
  · left
    have : j = k := by omega
    subst this
    rw [if_pos (by rw [leI (by omega) (by omega)]; exact h)]
  · right
    obtain ⟨c1, c2⟩ := hc j (by omega)
    rw [if_neg (by rw [leI (by omega) (by omega)]; exact h), if_neg (nI_in (show j < 16 by omega) (by decide)), gx_nI (by omega), c1, max_c (by have := hs_le (c := c) j (fun i hi => (hc i (by omega)).2); omega) (by omega), nI_s]
    exact ⟨by omega, (hI (hs c (j + 1)), nI (j + 1)), rfl, rfl⟩
theorem clashes_c {g : Nat → Int32} {B : Nat → Nat → Int32} {nx τ c : Nat → Nat} {k u n : Nat} (hn16 : n ≤ 16) (hkn : k < n) (hu : u ≤ 16) (hn : ∀ p, p < 16 → B 3 p = nI (nx p) ∧ nx p < 65536) (hτ : ∀ i, i < n → τ i < 16 ∧ B 49 i = nI (τ i)) (hc : ∀ i, i < k → B 48 i = nI (c i) ∧ c i ≤ 16) (hk : B 48 k = nI u) : ((∃ i, i < k ∧ c i = u ∧ (nx (τ k)).testBit (τ i) = true) ∧ f10_clashes g B (nI k) = some 1) ∨ ((¬ ∃ i, i < k ∧ c i = u ∧ (nx (τ k)).testBit (τ i) = true) ∧ f10_clashes g B (nI k) = some 0) := by
  unfold f10_clashes
  refine loop_one (fun n (x : Int32) => f10_clashes_l2 g B (nI k) n x) k (fun j x => x = nI j ∧ ∀ i, i < j → ¬ (c i = u ∧ (nx (τ k)).testBit (τ i) = true)) (fun P => ((∃ i, i < k ∧ c i = u ∧ (nx (τ k)).testBit (τ i) = true) ∧ P = some 1) ∨ ((¬ ∃ i, i < k ∧ c i = u ∧ (nx (τ k)).testBit (τ i) = true) ∧ P = some 0)) (by omega) ?_ 0 ⟨rfl, fun i h => absurd h (by omega)⟩
  rintro m j x hj ⟨rfl, hno⟩
  have ea : ∀ n i, f10_clashes_l2 g B (nI k) (n + 1) i = f10_clashes_b2 g B (nI k) (f10_clashes_l2 g B (nI k) n) i := fun _ _ => rfl
  simp only [ea]
  unfold f10_clashes_b2
  by_cases h : k ≤ j
  · left
    have : j = k := by omega
    subst this
    rw [if_pos (by rw [leI (by omega) (by omega)]; exact h)]
    exact Or.inr ⟨fun ⟨i, hi, h1, h2⟩ => hno i hi ⟨h1, h2⟩, rfl⟩
  obtain ⟨c1, c2⟩ := hc j (by omega)
  obtain ⟨t1, t2⟩ := hτ k hkn
  obtain ⟨s1, s2⟩ := hτ j (by omega)
  obtain ⟨n1, n2⟩ := hn (τ k) t1
  rw [if_neg (by rw [leI (by omega) (by omega)]; exact h), if_neg (nI_in (show j < 16 by omega) (by decide)), if_neg (nI_in (show k < 16 by omega) (by decide)), gx_nI (by omega), gx_nI (by omega), c1, hk, nI_s]
  by_cases e : c j = u
  · rw [if_pos (by rw [e]), if_neg (nI_in (show k < 16 by omega) (by decide)), gx_nI (by omega), t2, if_neg (nI_in t1 (by decide)), if_neg (nI_in (show j < 16 by omega) (by decide)), gx_nI (by omega), gx_nI (by omega), n1, s2, has10 (by omega) (by omega)]
    by_cases q : (nx (τ k)).testBit (τ j) = true
    · left
      rw [if_pos q, if_neg n10]
      exact Or.inl ⟨⟨j, by omega, e, q⟩, rfl⟩
    · right
      rw [if_neg q, if_pos rfl]
      refine ⟨by omega, nI (j + 1), rfl, rfl, fun i hi => ?_⟩
      by_cases e2 : i = j
      · subst e2; exact fun h => q h.2
      · exact hno i (by omega)
  · right
    rw [if_neg (by rw [eqI (by omega) (by omega)]; exact e)]
    refine ⟨by omega, nI (j + 1), rfl, rfl, fun i hi => ?_⟩
    by_cases e2 : i = j
    · subst e2; exact fun h => e h.1
    · exact hno i (by omega)
/-- the reference's state in the middle of the laying -/
def LYS (nx τ : Nat → Nat) (n w j : Nat) (B0 : Nat → Nat → Int32) (s : (Nat → Nat → Int32) × Int32) : Prop :=
  (∀ i, i ≠ 48 → s.1 i = B0 i) ∧ ((∃ (k : Nat) (c : Nat → Nat) (u : Nat), s.2 = nI k ∧ k ≤ n ∧ u ≤ w ∧ (k = n → u = 0) ∧ (∀ i, i < k → s.1 48 i = nI (c i) ∧ c i < w) ∧ RGR c k ∧ (∀ i i', i < k → i' < k → (nx (τ i)).testBit (τ i') = true → c i ≠ c i') ∧ (k < n → s.1 48 k = hI u) ∧ EXC n w (fun i i' => (nx (τ i)).testBit (τ i') = true) c k u ∧ j ≤ FI c k u) ∨ (s.2 = -1 ∧ ¬ ∃ c, PRI n w (fun i i' => (nx (τ i)).testBit (τ i') = true) c))
theorem laysW_c {g : Nat → Int32} {B0 : Nat → Nat → Int32} {nx τ : Nat → Nat} {n w : Nat} (hn0 : 0 < n) (hn16 : n ≤ 16) (hw : w ≤ 16) (hn : ∀ p, p < 16 → B0 3 p = nI (nx p) ∧ nx p < 65536) (hsym : ∀ p q, p < 16 → q < 16 → (nx p).testBit q = (nx q).testBit p) (hirr : ∀ p, p < 16 → (nx p).testBit p = false) (hτ : ∀ i, i < n → τ i < 16 ∧ B0 49 i = nI (τ i)) :
    ∃ r B', f10_laysWatches g B0 (nI n) (nI w) = some (r, B') ∧ (∀ i, i ≠ 48 → B' i = B0 i) ∧ ((r = 1 ∧ ∃ c, PRI n w (fun i i' => (nx (τ i)).testBit (τ i') = true) c ∧ LSTI n w (fun i i' => (nx (τ i)).testBit (τ i') = true) c ∧ ∀ i, i < n → B' 48 i = nI (c i)) ∨ (r = 0 ∧ ¬ ∃ c, PRI n w (fun i i' => (nx (τ i)).testBit (τ i') = true) c)) := by
  unfold f10_laysWatches
  simp only [letv]
  refine loop_one (fun m (x : (Nat → Nat → Int32) × Int32) => f10_laysWatches_l9 g (nI n) (nI w) m x.1 x.2) (2 ^ 100) (fun j s => LYS nx τ n w j B0 s)
    (fun P => ∃ r B', P = some (r, B') ∧ (∀ i, i ≠ 48 → B' i = B0 i) ∧ ((r = 1 ∧ ∃ c, PRI n w (fun i i' => (nx (τ i)).testBit (τ i') = true) c ∧ LSTI n w (fun i i' => (nx (τ i)).testBit (τ i') = true) c ∧ ∀ i, i < n → B' 48 i = nI (c i)) ∨ (r = 0 ∧ ¬ ∃ c, PRI n w (fun i i' => (nx (τ i)).testBit (τ i') = true) c))) (Nat.pow_lt_pow_right (by decide) (by decide)) ?_ (updA B0 48 (ux (B0 48) 0 (-1)), 0)
    ⟨fun i hi => updA_n hi, Or.inl ⟨0, fun _ => 0, 0, rfl, by omega, by omega, fun _ => rfl, fun i hi => absurd hi (by omega), fun i hi => absurd hi (by omega), fun i _ hi => absurd hi (by omega), fun _ => by
      show updA B0 48 (ux (B0 48) 0 (-1)) 48 0 = hI 0
      rw [updA_s, show (0 : Int32) = nI 0 from rfl, ux_nI (by omega)]
      exact upd_s, fun g _ _ => ⟨fun i hi => absurd hi (by omega), fun _ => Nat.zero_le _⟩, Nat.zero_le _⟩⟩
  rintro m j ⟨B, l3⟩ hj ⟨hf, hs2⟩
  have hf' : ∀ i, i ≠ 48 → B i = B0 i := hf
  have ea : ∀ m B i, f10_laysWatches_l9 g (nI n) (nI w) (m + 1) B i = f10_laysWatches_b9 g (nI n) (nI w) (f10_laysWatches_l9 g (nI n) (nI w) m) B i := fun _ _ _ => rfl
  simp only [ea]
  generalize f10_laysWatches_l9 g (nI n) (nI w) m = Kn
  unfold f10_laysWatches_b9
  rcases hs2 with ⟨k, c, u, e3, hkn, huw, hun, hc, hr, hpr, hku, hex, hFI⟩ | ⟨e3, hno⟩
  · have e3' : l3 = nI k := e3
    subst e3'
    have hc' : ∀ i, i < k → B 48 i = nI (c i) ∧ c i < w := hc
    have hku' : k < n → B 48 k = hI u := hku
    rw [if_neg (show ¬ nI k < 0 by rw [show (0 : Int32) = nI 0 from rfl, ltI (by omega) (by omega)]; omega)]
    by_cases hk : k = n
    · left
      subst hk
      rw [if_pos (by rw [leI (by omega) (by omega)]; omega), if_pos rfl]
      exact ⟨1, B, rfl, hf', Or.inl ⟨rfl, c, ⟨fun i hi => (hc' i hi).2, hpr⟩, hex.least hr, fun i hi => (hc' i hi).1⟩⟩
    right
    have hkn' : k < n := by omega
    have lt := FI_lt (c := c) (k := k) (u := u) (by omega) (fun i hi => by have := (hc' i hi).2; omega) (by omega)
    refine ⟨by omega, ?_⟩
    rw [if_neg (by rw [leI (by omega) (by omega)]; omega), if_neg (nI_in (show k < 16 by omega) (by decide)), if_neg (nI_in (show k < 16 by omega) (by decide)), gx_nI (by omega), ux_nI (by omega), hku' hkn', hI_s]
    simp only [letv]
    generalize hB1 : updA B 48 (upd (B 48) k (nI u)) = B1
    have f1 : ∀ i, i ≠ 48 → B1 i = B0 i := fun i hi => by rw [← hB1, updA_n hi]; exact hf' i hi
    have b48 : B1 48 = upd (B 48) k (nI u) := by rw [← hB1, updA_s]
    have k1 : B1 48 k = nI u := by rw [b48, upd_s]
    have o1 : ∀ i, i < k → B1 48 i = nI (c i) := fun i hi => by rw [b48, upd_n (by omega)]; exact (hc' i hi).1
    rw [if_neg (nI_in (show k < 16 by omega) (by decide)), if_neg (nI_in (show k < 16 by omega) (by decide)), gx_nI (by omega), k1]
    -- back
    have back : (w ≤ u ∨ hs c k < u) → ∃ s' : (Nat → Nat → Int32) × Int32, Kn B1 (nI k - 1) = Kn s'.1 s'.2 ∧ LYS nx τ n w (j + 1) B0 s' := by
      intro hb
      refine ⟨(B1, nI k - 1), rfl, f1, ?_⟩
      cases k with
      | zero => exact Or.inr ⟨rfl, hex.none hn0 hb⟩
      | succ k =>
        left
        have hck := (hc' k (by omega)).2
        have := FI_back (c := c) (k := k) (u := u) (by omega) (by omega)
        refine ⟨k, c, c k + 1, ?_, by omega, by omega, fun h => absurd h (by omega), fun i hi => ⟨o1 i (by omega), (hc' i (by omega)).2⟩, fun i hi => hr i (by omega), fun i i' hi hi' => hpr i i' (by omega) (by omega), fun _ => ?_, hex.back hkn' hb, by omega⟩
        · show nI (k + 1) - 1 = nI k
          rw [show (1 : Int32) = nI 1 from rfl, subI (by omega), Nat.add_sub_cancel]
        · show B1 48 k = hI (c k + 1)
          rw [o1 k (by omega)]
          unfold hI
          rw [if_neg (by omega), Nat.add_sub_cancel]
    by_cases h1 : w ≤ u
    · rw [if_pos (by rw [leI (by omega) (by omega)]; exact h1)]
      exact back (Or.inl h1)
    have hsle := hs_le (c := c) k (fun i hi => by have := (hc' i hi).2; omega)
    rw [if_neg (by rw [leI (by omega) (by omega)]; exact h1), highest_c (c := c) (by omega) (fun i hi => ⟨o1 i hi, by have := (hc' i hi).2; omega⟩), Option.bind_some, hI_s]
    by_cases h2 : ¬ u ≤ hs c k
    · rw [if_neg (by rw [leI (by omega) (by omega)]; exact h2)]
      exact back (Or.inr (by omega))
    replace h2 : u ≤ hs c k := Classical.not_not.mp h2
    rw [if_pos (by rw [leI (by omega) (by omega)]; exact h2)]
    rcases clashes_c (g := g) (B := B1) (nx := nx) (τ := τ) (c := c) (u := u) hn16 hkn' (by omega) (fun p hp => by rw [f1 3 (by decide)]; exact hn p hp) (fun i hi => by rw [f1 49 (by decide)]; exact hτ i hi) (fun i hi => ⟨o1 i hi, by have := (hc' i hi).2; omega⟩) k1 with ⟨cl, e⟩ | ⟨cl, e⟩
    · rw [e, Option.bind_some, if_neg n10]
      have := FI_stay (c := c) (k := k) (u := u)
      refine ⟨(B1, nI k), rfl, f1, Or.inl ⟨k, c, u + 1, rfl, hkn, by omega, fun h => absurd h (by omega), fun i hi => ⟨o1 i hi, (hc' i hi).2⟩, hr, hpr, fun _ => ?_, hex.clash hkn' cl, by omega⟩⟩
      show B1 48 k = hI (u + 1)
      rw [k1]
      unfold hI
      rw [if_neg (by omega), Nat.add_sub_cancel]
    · rw [e, Option.bind_some, if_pos rfl]
      have ff := FI_fwd (c := c) (k := k) (u := u)
      -- one place further
      have go : ∀ B2 : Nat → Nat → Int32, (∀ i, i ≠ 48 → B2 i = B0 i) → (∀ i, i < k + 1 → B2 48 i = B1 48 i) → (k + 1 < n → B2 48 (k + 1) = hI 0) → LYS nx τ n w (j + 1) B0 (B2, nI (k + 1)) := by
        intro B2 g1 g2 g3
        refine ⟨g1, Or.inl ⟨k + 1, pt c k u, 0, rfl, by omega, by omega, fun _ => rfl, fun i hi => ?_, fun i hi => ?_, fun i i' hi hi' ha => ?_, g3, hex.fwd, by omega⟩⟩
        · show B2 48 i = nI (pt c k u i) ∧ pt c k u i < w
          rw [g2 i hi]
          by_cases e2 : i = k
          · subst e2; rw [pt_s]; exact ⟨k1, by omega⟩
          · rw [pt_n e2]; exact ⟨o1 i (by omega), (hc' i (by omega)).2⟩
        · rw [hs_congr (c := c) (g := pt c k u) i (fun i' hi' => pt_n (by omega))]
          by_cases e2 : i = k
          · subst e2; rw [pt_s]; exact h2
          · rw [pt_n e2]; exact hr i (by omega)
        · by_cases e2 : i = k
          · subst e2
            rw [pt_s]
            by_cases e3 : i' = i
            · subst e3
              rw [hirr _ (hτ i' hkn').1] at ha
              exact absurd ha (by decide)
            · rw [pt_n e3]
              intro e4
              exact cl ⟨i', by omega, e4.symm, ha⟩
          · rw [pt_n e2]
            by_cases e3 : i' = k
            · subst e3
              rw [pt_s]
              intro e4
              refine cl ⟨i, by omega, e4, ?_⟩
              rw [← hsym _ _ (hτ i (by omega)).1 (hτ i' hkn').1]
              exact ha
            · rw [pt_n e3]
              exact hpr i i' (by omega) (by omega) ha
      rw [nI_s]
      by_cases h3 : n ≤ k + 1
      · rw [if_pos (by rw [leI (by omega) (by omega)]; exact h3)]
        exact ⟨(B1, nI (k + 1)), rfl, go B1 f1 (fun _ _ => rfl) (fun h => absurd h (by omega))⟩
      · rw [if_neg (by rw [leI (by omega) (by omega)]; exact h3), if_neg (nI_in (show k + 1 < 16 by omega) (by decide)), ux_nI (by omega)]
        refine ⟨(updA B1 48 (upd (B1 48) (k + 1) (-1)), nI (k + 1)), rfl, go _ (fun i hi => (updA_n hi).trans (f1 i hi)) (fun i hi => ?_) (fun _ => ?_)⟩
        · rw [updA_s, upd_n (by omega)]
        · rw [updA_s, upd_s]; rfl
  · left
    have e3' : l3 = -1 := e3
    subst e3'
    rw [if_pos (show (-1 : Int32) < 0 by decide), if_neg (show ¬ (-1 : Int32) = nI n by rw [show (-1 : Int32) = -nI 1 from rfl, neg_eq (by omega) (by omega) (by omega)]; exact not_false)]
    exact ⟨0, B, rfl, hf', Or.inr ⟨rfl, hno⟩⟩
