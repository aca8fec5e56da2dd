/-! told places in a row, and the answers -/
def TAU (T n j : Nat) (τ : Nat → Nat) : Prop := n ≤ j ∧ (∀ i, i < n → τ i < j ∧ T.testBit (τ i) = true) ∧ (∀ i i', i < i' → i' < n → τ i < τ i') ∧ ∀ q, q < j → T.testBit q = true → ∃ i, i < n ∧ τ i = q
theorem TAU.inj {T n j : Nat} {τ : Nat → Nat} (h : TAU T n j τ) {i i' : Nat} (hi : i < n) (hi' : i' < n) (e : τ i = τ i') : i = i' := by
  rcases Nat.lt_trichotomy i i' with c | c | c
  · have := h.2.2.1 i i' c hi'
    omega
  · exact c
  · have := h.2.2.1 i' i c hi
    omega
noncomputable def iv (n : Nat) (τ : Nat → Nat) (q : Nat) : Nat := if h : ∃ i, i < n ∧ τ i = q then h.choose else 0
theorem iv_c {T n j : Nat} {τ : Nat → Nat} (h : TAU T n j τ) {i : Nat} (hi : i < n) : iv n τ (τ i) = i := by
  have ex : ∃ i', i' < n ∧ τ i' = τ i := ⟨i, hi, rfl⟩
  unfold iv
  rw [dif_pos ex]
  exact h.inj ex.choose_spec.1 hi ex.choose_spec.2
theorem PRI.up {nx : Nat → Nat} {T n w : Nat} {τ c : Nat → Nat} (h : TAU T n 16 τ) (hc : PRI n w (fun i i' => (nx (τ i)).testBit (τ i') = true) c) : PRC nx T w (fun q => c (iv n τ q)) := by
  refine ⟨fun p hp hT => ?_, fun p q hp hq hTp hTq hn => ?_⟩
  · obtain ⟨i, hi, rfl⟩ := h.2.2.2 p hp hT
    show c (iv n τ (τ i)) < w
    rw [iv_c h hi]
    exact hc.1 i hi
  · obtain ⟨i, hi, rfl⟩ := h.2.2.2 p hp hTp
    obtain ⟨i', hi', rfl⟩ := h.2.2.2 q hq hTq
    show c (iv n τ (τ i)) ≠ c (iv n τ (τ i'))
    rw [iv_c h hi, iv_c h hi']
    exact hc.2 i i' hi hi' hn
theorem PRC.down {nx : Nat → Nat} {T n w : Nat} {τ d : Nat → Nat} (h : TAU T n 16 τ) (hd : PRC nx T w d) : PRI n w (fun i i' => (nx (τ i)).testBit (τ i') = true) (fun i => d (τ i)) := ⟨fun i hi => hd.1 _ (h.2.1 i hi).1 (h.2.1 i hi).2, fun i i' hi hi' hn => hd.2 _ _ (h.2.1 i hi).1 (h.2.1 i' hi').1 (h.2.1 i hi).2 (h.2.1 i' hi').2 hn⟩
theorem LSTI.up {nx : Nat → Nat} {T n w : Nat} {τ c : Nat → Nat} (h : TAU T n 16 τ) (hl : LSTI n w (fun i i' => (nx (τ i)).testBit (τ i') = true) c) : LST nx T w 16 (fun q => c (iv n τ q)) := by
  intro q _ hq hT d hd ha
  obtain ⟨i, hi, rfl⟩ := h.2.2.2 q hq hT
  show c (iv n τ (τ i)) ≤ d (τ i)
  rw [iv_c h hi]
  refine hl i hi (fun i => d (τ i)) (hd.down h) (fun i' hi' => ?_)
  have : d (τ i') = c (iv n τ (τ i')) := ha (τ i') (h.2.2.1 i' i hi' hi) (h.2.1 i' (by omega)).2
  rw [iv_c h (by omega)] at this
  exact this
theorem LST.same {nx : Nat → Nat} {T w x : Nat} {d e : Nat → Nat} (hd : PRC nx T w d) (he : PRC nx T w e) (ld : LST nx T w (x + 1) d) (le : LST nx T w 16 e) (hx : x < 16) : ∀ q, q ≤ x → T.testBit q = true → d q = e q := by
  intro q
  induction q using Nat.strongRecOn with
  | ind q ih =>
    intro hq hT
    have h1 := ld q (by omega) (by omega) hT e he (fun r hr hTr => (ih r hr (by omega) hTr).symm)
    have h2 := le q (by omega) (by omega) hT d hd (fun r hr hTr => ih r hr (by omega) hTr)
    omega
theorem enum_c {g : Nat → Int32} {B0 : Nat → Nat → Int32} {T : Nat} {x1 : Int32} (hT : T < 65536) (e6 : g 6 = nI T) : ∃ n τ B l3, f10_watches_l23 g x1 NF B0 0 (-1) 0 = f10_watches_l71 g x1 NF B (nI n) l3 0 ∧ TAU T n 16 τ ∧ (∀ i, i < n → B 49 i = nI (τ i)) ∧ (∀ i, i ≠ 49 → B i = B0 i) ∧ ∀ i, i < n → nI (τ i) = x1 → l3 = nI i := by
  refine loop_one (fun m (s : (Nat → Nat → Int32) × Int32 × Int32 × Int32) => f10_watches_l23 g x1 m s.1 s.2.1 s.2.2.1 s.2.2.2) 16
    (fun j s => ∃ n τ B l3, s = (B, nI n, l3, nI j) ∧ TAU T n j τ ∧ (∀ i, i < n → B 49 i = nI (τ i)) ∧ (∀ i, i ≠ 49 → B i = B0 i) ∧ ∀ i, i < n → nI (τ i) = x1 → l3 = nI i)
    (fun P => ∃ n τ B l3, P = f10_watches_l71 g x1 NF B (nI n) l3 0 ∧ TAU T n 16 τ ∧ (∀ i, i < n → B 49 i = nI (τ i)) ∧ (∀ i, i ≠ 49 → B i = B0 i) ∧ ∀ i, i < n → nI (τ i) = x1 → l3 = nI i) (by decide) ?_ (B0, 0, -1, 0)
    ⟨0, fun _ => 0, B0, -1, rfl, ⟨by omega, fun i hi => absurd hi (by omega), fun i i' _ hi => absurd hi (by omega), fun q hq => absurd hq (by omega)⟩, fun i hi => absurd hi (by omega), fun _ _ => rfl, fun i hi => absurd hi (by omega)⟩
  rintro m j s hj ⟨n, τ, B, l3, rfl, ⟨t1, t2, t3, t4⟩, hB, hf, hl⟩
  have ea : ∀ m B x y i, f10_watches_l23 g x1 (m + 1) B x y i = f10_watches_b23 g x1 (f10_watches_l23 g x1 m) B x y i := fun _ _ _ _ _ => rfl
  simp only [ea]
  generalize f10_watches_l23 g x1 m = Kn
  unfold f10_watches_b23
  by_cases h16 : 16 ≤ j
  · left
    have : j = 16 := by omega
    subst this
    rw [if_pos (by decide)]
    exact ⟨n, τ, B, l3, rfl, ⟨t1, t2, t3, t4⟩, hB, hf, hl⟩
  right
  have hj16 : j < 16 := by omega
  rw [if_neg (ge16 hj16), told10 hT e6 hj16, nI_s]
  refine ⟨hj16, ?_⟩
  by_cases q : T.testBit j = true
  · rw [if_pos q, if_neg (show ¬ nI 1 = 0 by decide)]
    have tau : TAU T (n + 1) (j + 1) (pt τ n j) := by
      refine ⟨by omega, fun i hi => ?_, fun i i' hi hi' => ?_, fun r hr hTr => ?_⟩
      · by_cases e : i = n
        · subst e; rw [pt_s]; exact ⟨by omega, q⟩
        · rw [pt_n e]; have := t2 i (by omega); exact ⟨by omega, this.2⟩
      · by_cases e : i' = n
        · subst e; rw [pt_s, pt_n (by omega)]; exact (t2 i hi).1
        · rw [pt_n e, pt_n (by omega)]; exact t3 i i' hi (by omega)
      · by_cases e : r = j
        · subst e; exact ⟨n, by omega, pt_s⟩
        · obtain ⟨i, hi, e⟩ := t4 r (by omega) hTr
          exact ⟨i, by omega, by rw [pt_n (by omega)]; exact e⟩
    have put : ∀ y, f10_watches_b50 g x1 Kn B (nI n) y (nI j) = Kn (updA B 49 (upd (B 49) n (nI j))) (nI (n + 1)) y (nI (j + 1)) := by
      intro y
      unfold f10_watches_b50
      rw [if_neg (nI_in (show n < 16 by omega) (by decide)), ux_nI (by omega), nI_s, nI_s]
      rfl
    have arr : ∀ i, i < n + 1 → updA B 49 (upd (B 49) n (nI j)) 49 i = nI (pt τ n j i) := fun i hi => by
      rw [updA_s]
      by_cases e : i = n
      · subst e; rw [upd_s, pt_s]
      · rw [upd_n e, pt_n e]; exact hB i (by omega)
    have fr : ∀ i, i ≠ 49 → updA B 49 (upd (B 49) n (nI j)) i = B0 i := fun i hi => (updA_n hi).trans (hf i hi)
    by_cases e : nI j = x1
    · rw [if_pos e, put]
      refine ⟨(_, nI (n + 1), nI n, nI (j + 1)), rfl, n + 1, pt τ n j, _, nI n, rfl, tau, arr, fr, fun i hi hx => ?_⟩
      by_cases e2 : i = n
      · subst e2; rfl
      · exfalso
        rw [pt_n e2, ← e] at hx
        have := t2 i (by omega)
        rw [eqI (by omega) (by omega)] at hx
        omega
    · rw [if_neg e, put]
      refine ⟨(_, nI (n + 1), l3, nI (j + 1)), rfl, n + 1, pt τ n j, _, l3, rfl, tau, arr, fr, fun i hi hx => ?_⟩
      by_cases e2 : i = n
      · subst e2; rw [pt_s] at hx; exact absurd hx e
      · rw [pt_n e2] at hx; exact hl i (by omega) hx
  · rw [if_neg q, if_pos (show nI 0 = (0 : Int32) from rfl)]
    refine ⟨(B, nI n, l3, nI (j + 1)), rfl, n, τ, B, l3, rfl, ⟨by omega, fun i hi => by have := t2 i hi; exact ⟨by omega, this.2⟩, t3, fun r hr hTr => ?_⟩, hB, hf, hl⟩
    by_cases e : r = j
    · subst e; exact absurd hTr q
    · exact t4 r (by omega) hTr
theorem watch10_c {g : Nat → Int32} {B0 : Nat → Nat → Int32} {nx : Nat → Nat} {T : Nat} {x1 : Int32} (hT : T < 65536) (e6 : g 6 = nI T) (hn : ∀ p, p < 16 → B0 3 p = nI (nx p) ∧ nx p < 65536) (hsym : ∀ p q, p < 16 → q < 16 → (nx p).testBit q = (nx q).testBit p) (hirr : ∀ p, p < 16 → (nx p).testBit p = false) (hx : x1 = 100 ∨ ∃ x, x < 16 ∧ T.testBit x = true ∧ x1 = nI x) :
    ∃ w r B', f10_watches_l23 g x1 NF B0 0 (-1) 0 = some (r, B') ∧ (∀ i, i ≠ 48 → i ≠ 49 → B' i = B0 i) ∧ (∃ d, PRC nx T w d) ∧ (∀ w', w' < w → ¬ ∃ d, PRC nx T w' d) ∧ (x1 = 100 → r = nI w) ∧ ∀ x, x < 16 → T.testBit x = true → x1 = nI x → ∃ d, PRC nx T w d ∧ LST nx T w 16 d ∧ r = nI (d x) := by
  obtain ⟨n, τ, B, l3, e1, hτ, hB, hf, hl⟩ := enum_c (g := g) (B0 := B0) (x1 := x1) hT e6
  rw [e1]
  have n100 : ∀ x, x < 16 → ¬ nI x = (100 : Int32) := fun x hx => by
    rw [show (100 : Int32) = nI 100 from rfl, eqI (by omega) (by omega)]
    omega
  have ea : ∀ m B x y i, f10_watches_l71 g x1 (m + 1) B x y i = f10_watches_b71 g x1 (f10_watches_l71 g x1 m) B x y i := fun _ _ _ _ _ => rfl
  by_cases hn0 : n = 0
  · subst hn0
    have noT : ∀ q, q < 16 → ¬ T.testBit q = true := fun q hq h => by
      obtain ⟨i, hi, _⟩ := hτ.2.2.2 q hq h
      omega
    have h100 : x1 = 100 := by
      rcases hx with h | ⟨x, h1, h2, -⟩
      · exact h
      · exact absurd h2 (noT x h1)
    obtain ⟨N, hN⟩ := NF_1
    refine ⟨0, nI 0, B, ?_, fun i _ h => hf i h, ⟨fun _ => 0, fun p hp h => absurd h (noT p hp), fun p q hp _ h => absurd h (noT p hp)⟩, fun w' h => absurd h (by omega), fun _ => rfl, fun x hx h => absurd h (noT x hx)⟩
    rw [hN, ea]
    unfold f10_watches_b71 f10_watches_b94
    rw [if_pos (show nI 0 ≤ (0 : Int32) by decide), if_pos h100]
    rfl
  have hn16 : n ≤ 16 := hτ.1
  have hn3 : ∀ p, p < 16 → B 3 p = nI (nx p) ∧ nx p < 65536 := fun p hp => by rw [hf 3 (by decide)]; exact hn p hp
  refine loop_one (fun m (s : (Nat → Nat → Int32) × Int32) => f10_watches_l71 g x1 m s.1 (nI n) l3 s.2) 16
    (fun j s => s.2 = nI j ∧ (∀ i, i ≠ 48 → s.1 i = B i) ∧ ∀ w', w' < j → ¬ ∃ d, PRC nx T w' d)
    (fun P => ∃ w r B', P = some (r, B') ∧ (∀ i, i ≠ 48 → i ≠ 49 → B' i = B0 i) ∧ (∃ d, PRC nx T w d) ∧ (∀ w', w' < w → ¬ ∃ d, PRC nx T w' d) ∧ (x1 = 100 → r = nI w) ∧ ∀ x, x < 16 → T.testBit x = true → x1 = nI x → ∃ d, PRC nx T w d ∧ LST nx T w 16 d ∧ r = nI (d x)) (by decide) ?_ (B, 0) ⟨rfl, fun _ _ => rfl, fun w' h => absurd h (by omega)⟩
  rintro m j ⟨B1, x⟩ hj ⟨rfl, hf1, hno⟩
  have hf1' : ∀ i, i ≠ 48 → B1 i = B i := hf1
  simp only [ea]
  generalize f10_watches_l71 g x1 m = Kn
  unfold f10_watches_b71
  rw [if_neg (show ¬ nI n ≤ 0 by rw [show (0 : Int32) = nI 0 from rfl, leI (by omega) (by omega)]; omega)]
  obtain ⟨r, B2, l1, l2, l3'⟩ := laysW_c (g := g) (B0 := B1) (nx := nx) (τ := τ) (w := j) (by omega) hn16 hj (fun p hp => by rw [hf1' 3 (by decide)]; exact hn3 p hp) hsym hirr (fun i hi => ⟨(hτ.2.1 i hi).1, by rw [hf1' 49 (by decide)]; exact hB i hi⟩)
  rw [l1, Option.bind_some]
  rcases l3' with ⟨rfl, c, c1, c2, c3⟩ | ⟨rfl, no⟩
  · left
    rw [if_neg n10]
    unfold f10_watches_b94
    have fr : ∀ i, i ≠ 48 → i ≠ 49 → B2 i = B0 i := fun i h1 h2 => by rw [l2 i h1, hf1' i h1, hf i h2]
    by_cases e : x1 = 100
    · rw [if_pos e]
      exact ⟨j, nI j, B2, rfl, fr, ⟨_, c1.up hτ⟩, hno, fun _ => rfl, fun x hx _ h => absurd (h.symm.trans e) (n100 x hx)⟩
    · rw [if_neg e]
      obtain ⟨x, hx16, hTx, hx1⟩ := hx.resolve_left e
      obtain ⟨i, hi, ei⟩ := hτ.2.2.2 x hx16 hTx
      have el : l3 = nI i := hl i hi (by rw [ei, hx1])
      rw [el, if_neg (nI_in (show i < 16 by omega) (by decide)), gx_nI (by omega), show (1, B2).2 48 i = nI (c i) from c3 i hi]
      refine ⟨j, nI (c i), B2, rfl, fr, ⟨_, c1.up hτ⟩, hno, fun h => absurd h e, fun x' hx' hTx' h => ?_⟩
      have : x' = x := by
        rw [hx1, eqI (by omega) (by omega)] at h
        exact h.symm
      subst this
      refine ⟨_, c1.up hτ, c2.up hτ, ?_⟩
      show nI (c i) = nI (c (iv n τ x'))
      rw [← ei, iv_c hτ hi]
  · right
    rw [if_pos rfl, nI_s]
    have noj : ¬ ∃ d, PRC nx T j d := fun ⟨d, hd⟩ => no ⟨_, hd.down hτ⟩
    have lt : j < 16 := by
      by_cases e : j = 16
      · subst e
        exfalso
        refine noj ⟨fun p => p, fun p hp _ => hp, fun p q hp hq _ _ hn e => ?_⟩
        have e' : p = q := e
        subst e'
        rw [hirr p hp] at hn
        exact absurd hn (by decide)
      · omega
    refine ⟨lt, (B2, nI (j + 1)), rfl, rfl, fun i hi => (l2 i hi).trans (hf1' i hi), fun w' hw' => ?_⟩
    by_cases e : w' = j
    · subst e; exact noj
    · exact hno w' (by omega)
theorem ok_watches : OK_watches INV := by
  rintro σf σA fW AW μf μA x1 hI
  have hI0 := hI
  obtain ⟨T, nx, hB, hS, hT, hW, hK, hL, hX⟩ := hI
  have hB0 := hB
  obtain ⟨b1, b2, b3, b4, b5, b6, b7⟩ := hB
  have hn1 : ∀ p, p < 16 → σA 2 1 p = nI (nx p) ∧ nx p < 65536 := fun p hp => ⟨(b4 p hp).1, (b4 p hp).2.2⟩
  have hn2 : ∀ p, p < 16 → μA 3 p = nI (nx p) ∧ nx p < 65536 := fun p hp => ⟨(b4 p hp).2.1, (b4 p hp).2.2⟩
  unfold f9_watches f10_watches
  -- what is left once it is clear what is asked
  have both : (x1 = 100 ∨ ∃ x, x < 16 ∧ T.testBit x = true ∧ x1 = nI x) → ∃ (r : Int32 × (Nat → Nat → Int32)) (r' : Int32 × (Nat → Nat → Int32)), f9_watches_b19 (σf 0) (σA 0) (σf 2) (σA 2) (σf 8) x1 (σA 8) = some r ∧ f10_watches_l23 μf x1 NF μA 0 (-1) 0 = some r' ∧ r.1 = (r'.1) ∧ INV σf (cset σA 8 (r.2)) fW AW μf (r'.2) := by
    intro hx
    obtain ⟨w, r, B', e1, fr, ex, least, r100, rx⟩ := watch10_c (g := μf) (x1 := x1) b1 b3 hn2 b5 b6 hx
    obtain ⟨w9, A', e2, hw16, ex9, least9, z9⟩ := fewest_c (f := σf 8) (A := σA 8) b1 b2 b5 b6 hn1
    have ew : w9 = w := by
      rcases Nat.lt_trichotomy w9 w with h | h | h
      · exact absurd ex9 (least w9 h)
      · exact h
      · exact absurd ex (least9 w h)
    subst ew
    have inv : ∀ A'', INV σf (cset σA 8 A'') fW AW μf B' := by
      intro A''
      refine ⟨T, nx, ?_, ?_, ?_, ?_, ?_, ?_, ?_⟩
      · show RB T nx (σf 2 0) (μf 6) (σA 2 1) (B' 3)
        rw [fr 3 (by decide) (by decide)]; exact hB0
      · show RS T (σf 3) (σA 3) (B' 0)
        rw [fr 0 (by decide) (by decide)]; exact hS
      · show RT (σf 1 1) (μf 8) (σA 1 0) (B' 7)
        rw [fr 7 (by decide) (by decide)]; exact hT
      · show RW fW AW (B' 4) (B' 5)
        rw [fr 4 (by decide) (by decide), fr 5 (by decide) (by decide)]; exact hW
      · show RK T (σf 0 14) (μf 51) (σf 5) (σA 5) (B' 2)
        rw [fr 2 (by decide) (by decide)]; exact hK
      · exact LAWR.congr (fL := σf 10) (AL := σA 10) (g := μf) (B := μA) hL rfl (fun _ _ => rfl) rfl (fun j h1 h2 => fr j (by omega) (by omega))
      · show RX (σA 12 0) (B' 43)
        rw [fr 43 (by decide) (by decide)]; exact hX
    unfold f9_watches_b19
    rw [e2, Option.bind_some]
    by_cases e : x1 = 100
    · rw [if_pos e]
      exact ⟨_, _, rfl, e1, (r100 e).symm, inv _⟩
    · rw [if_neg e]
      obtain ⟨x, hx16, hTx, rfl⟩ := hx.resolve_left e
      obtain ⟨d, A'', e3, d1, d2⟩ := watchOf_c (f := σf 8) (A := A') hw16 b1 b2 b5 b6 hn1 hx16 hTx ex z9
      obtain ⟨d', t1, t2, t3⟩ := rx x hx16 hTx rfl
      have es := d2.same d1 t1 t2 hx16 x (Nat.le_refl _) hTx
      dsimp only
      rw [e3, Option.bind_some]
      refine ⟨_, _, rfl, e1, ?_, inv _⟩
      show nI (d x) = r
      rw [t3, es]
  by_cases e : x1 = 100
  · rw [if_pos e, if_pos e]
    exact both (Or.inl e)
  rw [if_neg e, if_neg e]
  rcases told_c b1 b2 b3 x1 (AB := σA 2) (A := μA) with ⟨h1, h2⟩ | ⟨p, hp, rfl, hTp, u1, u2⟩
  · rw [if_pos h1, if_pos h2]
    exact ⟨_, _, rfl, rfl, rfl, by rw [cset_id]; exact hI0⟩
  · rw [u1, if_neg n10, u2, if_neg n10]
    exact both (Or.inr ⟨p, hp, hTp, rfl⟩)
