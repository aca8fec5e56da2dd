/-! the class's fewest watches, and the least row -/
def PRC (nx : Nat → Nat) (T w : Nat) (d : Nat → Nat) : Prop := (∀ p, p < 16 → T.testBit p = true → d p < w) ∧ ∀ p q, p < 16 → q < 16 → T.testBit p = true → T.testBit q = true → (nx p).testBit q = true → d p ≠ d q
theorem PRC_0 {nx : Nat → Nat} {T w : Nat} {d : Nat → Nat} : FLC nx (fun _ => 0) T w d ↔ PRC nx T w d := by
  constructor
  · rintro ⟨h1, h2⟩
    exact ⟨fun p hp hT => (h1 p hp hT).1, h2⟩
  · rintro ⟨h1, h2⟩
    refine ⟨fun p hp hT => ⟨h1 p hp hT, fun q hq hm => ?_⟩, h2⟩
    rw [Nat.zero_testBit] at hm
    exact absurd hm (by decide)
theorem fewest_c {f f1 : Nat → Int32} {A A1 : Nat → Nat → Int32} {nx : Nat → Nat} {T : Nat} (hT : T < 65536) (e0 : f1 0 = nI T) (hsym : ∀ p q, p < 16 → q < 16 → (nx p).testBit q = (nx q).testBit p) (hirr : ∀ p, p < 16 → (nx p).testBit p = false) (hn : ∀ p, p < 16 → A1 1 p = nI (nx p) ∧ nx p < 65536) : ∃ w A', f4_fewest f A f1 A1 = some (nI w, A') ∧ w ≤ 16 ∧ (∃ d, PRC nx T w d) ∧ (∀ w', w' < w → ¬ ∃ d, PRC nx T w' d) ∧ ∀ i, i < 16 → A' 0 i = 0 := by
  have scan : ∀ A2 : Nat → Nat → Int32, (∀ i, i < 16 → A2 0 i = 0) → ∃ w A', f4_fewest_l26 f f1 A1 NF A2 0 = some (nI w, A') ∧ w ≤ 16 ∧ (∃ d, PRC nx T w d) ∧ (∀ w', w' < w → ¬ ∃ d, PRC nx T w' d) ∧ ∀ i, i < 16 → A' 0 i = 0 := by
    intro A2 h2
    refine loop_one (fun n (x : (Nat → Nat → Int32) × Int32) => f4_fewest_l26 f f1 A1 n x.1 x.2) 16 (fun j x => x.2 = nI j ∧ (∀ i, i < 16 → x.1 0 i = 0) ∧ ∀ w', w' < j → ¬ ∃ d, PRC nx T w' d) (fun P => ∃ w A', P = some (nI w, A') ∧ w ≤ 16 ∧ (∃ d, PRC nx T w d) ∧ (∀ w', w' < w → ¬ ∃ d, PRC nx T w' d) ∧ ∀ i, i < 16 → A' 0 i = 0) (by decide) ?_ (A2, 0) ⟨rfl, h2, fun w' h => absurd h (by omega)⟩
    rintro n j ⟨A3, x⟩ hj ⟨rfl, h3, hno⟩
    have ea : ∀ n A i, f4_fewest_l26 f f1 A1 (n + 1) A i = f4_fewest_b26 f f1 A1 (f4_fewest_l26 f f1 A1 n) A i := fun _ _ _ => rfl
    simp only [ea]
    generalize f4_fewest_l26 f f1 A1 n = Kn
    unfold f4_fewest_b26
    by_cases h16 : 16 ≤ j
    · left
      have : j = 16 := by omega
      subst this
      rw [if_pos (by decide)]
      exact ⟨16, A3, rfl, Nat.le_refl _, ⟨fun p => p, fun p hp _ => hp, fun p q hp hq _ _ hn e => by
        have e' : p = q := e
        subst e'
        rw [hirr p hp] at hn
        exact absurd hn (by decide)⟩, hno, h3⟩
    have hj16 : j < 16 := by omega
    obtain ⟨r, r1, r2⟩ := fill_c (w := j) (X := A1 1) hj hsym hirr hn 16 64 T (fun _ => 0) (A3 0) (popc_le T 16) (by decide) hT (fun a ha => ⟨h3 a ha, by show (0 : Nat) < 65536; decide⟩)
    rw [if_neg (ge16 hj16), e0, r1, Option.bind_some]
    simp only [letv]
    rcases r2 with ⟨rfl, c, hc⟩ | ⟨rfl, hc⟩
    · left
      rw [if_neg n10]
      refine ⟨j, updA A3 0 (A3 0), rfl, hj, ⟨c, PRC_0.mp hc⟩, hno, fun i hi => ?_⟩
      rw [updA_s]; exact h3 i hi
    · right
      rw [if_pos rfl, nI_s]
      refine ⟨hj16, (updA A3 0 (A3 0), nI (j + 1)), rfl, rfl, fun i hi => ?_, fun w' hw' => ?_⟩
      · show updA A3 0 (A3 0) 0 i = 0
        rw [updA_s]; exact h3 i hi
      · by_cases e : w' = j
        · subst e
          rintro ⟨d, hd⟩
          exact hc (fun a b _ _ _ => rfl) ⟨d, PRC_0.mpr hd⟩
        · exact hno w' (by omega)
  unfold f4_fewest
  refine loop_one (fun n (x : (Nat → Nat → Int32) × Int32) => f4_fewest_l2 f f1 A1 n x.1 x.2) 16 (fun j x => x.2 = nI j ∧ ∀ i, i < j → x.1 0 i = 0) (fun P => ∃ w A', P = some (nI w, A') ∧ w ≤ 16 ∧ (∃ d, PRC nx T w d) ∧ (∀ w', w' < w → ¬ ∃ d, PRC nx T w' d) ∧ ∀ i, i < 16 → A' 0 i = 0) (by decide) ?_ (A, 0) ⟨rfl, fun i h => absurd h (by omega)⟩
  rintro n j ⟨A3, x⟩ hj ⟨rfl, h3⟩
  have ea : ∀ n A i, f4_fewest_l2 f f1 A1 (n + 1) A i = f4_fewest_b2 f f1 A1 (f4_fewest_l2 f f1 A1 n) A i := fun _ _ _ => rfl
  simp only [ea]
  generalize f4_fewest_l2 f f1 A1 n = Kn
  unfold f4_fewest_b2
  by_cases h16 : 16 ≤ j
  · left
    have : j = 16 := by omega
    subst this
    rw [if_pos (by decide)]
    exact scan A3 h3
  · right
    have hj16 : j < 16 := by omega
    rw [if_neg (ge16 hj16), if_neg (nI_in hj16 (by decide)), ux_nI (by omega), nI_s]
    simp only [letv]
    refine ⟨hj16, (updA A3 0 (upd (A3 0) j 0), nI (j + 1)), rfl, rfl, fun i hi => ?_⟩
    show updA A3 0 (upd (A3 0) j 0) 0 i = 0
    rw [updA_s]
    by_cases e : i = j
    · subst e; exact upd_s
    · rw [upd_n e]; exact h3 i (by omega)
theorem leastW_c {f : Nat → Int32} {A : Nat → Nat → Int32} {X : Nat → Int32} {nx M : Nat → Nat} {L w p : Nat} (hw : w ≤ 16) (hsym : ∀ p q, p < 16 → q < 16 → (nx p).testBit q = (nx q).testBit p) (hirr : ∀ p, p < 16 → (nx p).testBit p = false) (hn : ∀ p, p < 16 → X p = nI (nx p) ∧ nx p < 65536) (hp : p < 16) (hL : L < 65536) (hLp : L.testBit p = true) (hM : ∀ a, a < 16 → A 0 a = nI (M a) ∧ M a < 65536) (hpf : PFX M w) (hex : ∃ c, FLC nx M L w c) :
    ∃ a A', f4_leastWatch f A 16 X (nI p) (nI (cut1 L p)) (nI w) = some (nI a, A') ∧ a < w ∧ (∀ q, q < 16 → (M a).testBit q = true → ¬ (nx p).testBit q = true) ∧ (∃ c, FLC nx (pt M a (M a ||| 2 ^ p)) (cut1 L p) w c) ∧ (∀ b, b < a → ¬ ∃ c, FLC nx M L w c ∧ c p = b) ∧ PFX (pt M a (M a ||| 2 ^ p)) w ∧ A' 0 = A 0 := by
  have cl : cut1 L p < 65536 := mset_lt _ 16
  obtain ⟨np, np2⟩ := hn p hp
  unfold f4_leastWatch
  refine loop_one (fun n (x : (Nat → Nat → Int32) × Int32) => f4_leastWatch_l3 f 16 X (nI p) (nI (cut1 L p)) (nI w) n x.1 x.2) w (fun j x => x.2 = nI j ∧ x.1 0 = A 0 ∧ ∀ b, b < j → ¬ ∃ c, FLC nx M L w c ∧ c p = b) (fun P => ∃ a A', P = some (nI a, A') ∧ a < w ∧ (∀ q, q < 16 → (M a).testBit q = true → ¬ (nx p).testBit q = true) ∧ (∃ c, FLC nx (pt M a (M a ||| 2 ^ p)) (cut1 L p) w c) ∧ (∀ b, b < a → ¬ ∃ c, FLC nx M L w c ∧ c p = b) ∧ PFX (pt M a (M a ||| 2 ^ p)) w ∧ A' 0 = A 0) (by omega) ?_ (A, 0) ⟨rfl, rfl, fun b h => absurd h (by omega)⟩
  rintro n j ⟨A2, x⟩ hj ⟨rfl, h2, hno⟩
  have h2' : A2 0 = A 0 := h2
  have ea : ∀ n A i, f4_leastWatch_l3 f 16 X (nI p) (nI (cut1 L p)) (nI w) (n + 1) A i = f4_leastWatch_b3 f 16 X (nI p) (nI (cut1 L p)) (nI w) (f4_leastWatch_l3 f 16 X (nI p) (nI (cut1 L p)) (nI w) n) A i := fun _ _ _ => rfl
  simp only [ea]
  generalize f4_leastWatch_l3 f 16 X (nI p) (nI (cut1 L p)) (nI w) n = Kn
  unfold f4_leastWatch_b3
  by_cases hjw : ¬ j < w
  · exfalso
    obtain ⟨c, hc⟩ := hex
    have := (hc.1 p hp hLp).1
    exact hno (c p) (by omega) ⟨c, hc, rfl⟩
  replace hjw : j < w := Classical.not_not.mp hjw
  obtain ⟨m1, m2⟩ := hM j (by omega)
  rw [if_neg (by rw [leI (by omega) (by omega)]; omega), h2', at_nI (show j < 16 by omega) (by decide), at_nI hp (by decide), m1, np]
  by_cases hc : ∀ q, q < 16 → (M j).testBit q = true → ¬ (nx p).testBit q = true
  · rw [if_pos ((and0 m2 np2).mpr hc), shl1 (by omega), or_nI, put_nI (show j < 16 by omega) (by decide)]
    simp only [letv, updA_s]
    have hM' : ∀ a, a < 16 → upd (A 0) j (nI (M j ||| 2 ^ p)) a = nI (pt M j (M j ||| 2 ^ p) a) ∧ pt M j (M j ||| 2 ^ p) a < 65536 := by
      intro a ha
      by_cases e : a = j
      · subst e; rw [upd_s, pt_s]; exact ⟨rfl, Nat.or_lt_two_pow (n := 16) m2 (pow16 hp)⟩
      · rw [upd_n e, pt_n e]; exact hM a ha
    obtain ⟨r, r1, r2⟩ := fill_c (w := w) (X := X) hw hsym hirr hn 16 64 (cut1 L p) (pt M j (M j ||| 2 ^ p)) (upd (A 0) j (nI (M j ||| 2 ^ p))) (popc_le _ 16) (by decide) cl hM'
    rw [r1, Option.bind_some, put_nI (show j < 16 by omega) (by decide), ← m1, upd_back, nI_s]
    -- either the watches stay without a gap, or no one can have this one
    have gap : PFX (pt M j (M j ||| 2 ^ p)) w ∨ ¬ ∃ c, FLC nx M L w c ∧ c p = j := by
      by_cases all : ∀ a, a < j → M a ≠ 0
      · exact Or.inl (hpf.put all or_ne)
      · right
        rintro ⟨c, h1, h3⟩
        have : ∃ b, b < j ∧ M b = 0 := by
          by_cases q : ∃ b, b < j ∧ M b = 0
          · exact q
          · exact absurd (fun a ha h0 => q ⟨a, ha, h0⟩) all
        obtain ⟨b, hb, b0⟩ := this
        have j0 := hpf b j hb hjw b0
        exact hno b hb ⟨_, h1.swap (by omega) hjw b0 j0, swp_b h3⟩
    rcases r2 with ⟨rfl, c, hfc⟩ | ⟨rfl, hfc⟩
    · left
      rw [if_neg n10]
      refine ⟨j, _, rfl, hjw, hc, ⟨c, hfc⟩, hno, ?_, updA_s⟩
      rcases gap with g | g
      · exact g
      · exact absurd ⟨_, hfc.out hsym hirr hL hp hjw hc, pt_s⟩ g
    · right
      rw [if_pos rfl]
      refine ⟨hjw, (updA (updA (updA A2 0 (upd (A 0) j (nI (M j ||| 2 ^ p)))) 0 (upd (A 0) j (nI (M j ||| 2 ^ p)))) 0 (A 0), nI (j + 1)), rfl, rfl, (show updA (updA (updA A2 0 (upd (A 0) j (nI (M j ||| 2 ^ p)))) 0 (upd (A 0) j (nI (M j ||| 2 ^ p)))) 0 (A 0) 0 = A 0 from updA_s), fun b hb => ?_⟩
      by_cases e : b = j
      · subst e
        rcases gap with g | g
        · rintro ⟨c, h1, h3⟩
          have := h1.into hsym hL hp hLp
          rw [h3] at this
          exact hfc g ⟨c, this⟩
        · exact g
      · exact hno b (by omega)
  · right
    rw [if_neg (fun h => hc ((and0 m2 np2).mp h)), nI_s]
    refine ⟨hjw, (A2, nI (j + 1)), rfl, rfl, h2', fun b hb => ?_⟩
    by_cases e : b = j
    · subst e
      rintro ⟨c, h1, h3⟩
      refine hc (fun q hq hm => ?_)
      have := (h1.1 p hp hLp).2 q hq
      rw [h3] at this
      exact this hm
    · exact hno b (by omega)
/-- what stands in the watches is d below j -/
theorem part_flc {nx M d : Nat → Nat} {T L w j : Nat} (hw : w ≤ 16) (hsym : ∀ p q, p < 16 → q < 16 → (nx p).testBit q = (nx q).testBit p) (hd : PRC nx T w d) (hL : ∀ q, q < 16 → (L.testBit q = true ↔ (T.testBit q = true ∧ j ≤ q))) (hM : ∀ a, a < 16 → ∀ q, q < 16 → ((M a).testBit q = true ↔ (q < j ∧ T.testBit q = true ∧ d q = a))) (c : Nat → Nat) : FLC nx M L w c ↔ PRC nx T w (fun q => if q < j then d q else c q) := by
  constructor
  · intro h
    have side : ∀ p q, p < 16 → q < 16 → T.testBit p = true → T.testBit q = true → j ≤ p → q < j → (nx p).testBit q = true → c p ≠ d q := by
      intro p q hp hq hTp hTq h1 h2 hn e
      have := h.1 p hp ((hL p hp).mpr ⟨hTp, h1⟩)
      exact this.2 q hq ((hM (c p) (by omega) q hq).mpr ⟨h2, hTq, e.symm⟩) hn
    refine ⟨fun p hp hTp => ?_, fun p q hp hq hTp hTq hn => ?_⟩
    · show (if p < j then d p else c p) < w
      by_cases e : p < j
      · rw [if_pos e]; exact hd.1 p hp hTp
      · rw [if_neg e]; exact (h.1 p hp ((hL p hp).mpr ⟨hTp, by omega⟩)).1
    · show (if p < j then d p else c p) ≠ (if q < j then d q else c q)
      by_cases e1 : p < j
      · by_cases e2 : q < j
        · rw [if_pos e1, if_pos e2]; exact hd.2 p q hp hq hTp hTq hn
        · rw [if_pos e1, if_neg e2]
          exact (side q p hq hp hTq hTp (by omega) e1 (by rw [← hsym p q hp hq]; exact hn)).symm
      · by_cases e2 : q < j
        · rw [if_neg e1, if_pos e2]
          exact side p q hp hq hTp hTq (by omega) e2 hn
        · rw [if_neg e1, if_neg e2]
          exact h.2 p q hp hq ((hL p hp).mpr ⟨hTp, by omega⟩) ((hL q hq).mpr ⟨hTq, by omega⟩) hn
  · intro h
    have at2 : ∀ p, ¬ p < j → (if p < j then d p else c p) = c p := fun p hp => if_neg hp
    have at1 : ∀ p, p < j → (if p < j then d p else c p) = d p := fun p hp => if_pos hp
    refine ⟨fun p hp hLp => ?_, fun p q hp hq hLp hLq hn => ?_⟩
    · obtain ⟨hTp, hjp⟩ := (hL p hp).mp hLp
      have h1 : (if p < j then d p else c p) < w := h.1 p hp hTp
      rw [at2 p (by omega)] at h1
      refine ⟨h1, fun q hq hm hn => ?_⟩
      obtain ⟨m1, m2, m3⟩ := (hM (c p) (by omega) q hq).mp hm
      have h2 : (if p < j then d p else c p) ≠ (if q < j then d q else c q) := h.2 p q hp hq hTp m2 hn
      rw [at2 p (by omega), at1 q m1] at h2
      exact h2 m3.symm
    · obtain ⟨hTp, hjp⟩ := (hL p hp).mp hLp
      obtain ⟨hTq, hjq⟩ := (hL q hq).mp hLq
      have h2 : (if p < j then d p else c p) ≠ (if q < j then d q else c q) := h.2 p q hp hq hTp hTq hn
      rw [at2 p (by omega), at2 q (by omega)] at h2
      exact h2
theorem PRC.congr {nx d d' : Nat → Nat} {T w : Nat} (h : PRC nx T w d) (e : ∀ p, p < 16 → T.testBit p = true → d' p = d p) : PRC nx T w d' := ⟨fun p hp hT => by rw [e p hp hT]; exact h.1 p hp hT, fun p q hp hq h1 h2 hn => by rw [e p hp h1, e q hq h2]; exact h.2 p q hp hq h1 h2 hn⟩
/-- d is the least so far: below j -/
def LST (nx : Nat → Nat) (T w j : Nat) (d : Nat → Nat) : Prop := ∀ q, q < j → q < 16 → T.testBit q = true → ∀ c, PRC nx T w c → (∀ r, r < q → T.testBit r = true → c r = d r) → d q ≤ c q
theorem watchOf_c {f f1 : Nat → Int32} {A A1 : Nat → Nat → Int32} {nx : Nat → Nat} {T w x : Nat} (hw : w ≤ 16) (hT : T < 65536) (e0 : f1 0 = nI T) (hsym : ∀ p q, p < 16 → q < 16 → (nx p).testBit q = (nx q).testBit p) (hirr : ∀ p, p < 16 → (nx p).testBit p = false) (hn : ∀ p, p < 16 → A1 1 p = nI (nx p) ∧ nx p < 65536) (hx : x < 16) (hTx : T.testBit x = true) (hex : ∃ d, PRC nx T w d) (h0 : ∀ i, i < 16 → A 0 i = 0) : ∃ d A', f4_watchOf f A f1 A1 (nI x) (nI w) = some (nI (d x), A') ∧ PRC nx T w d ∧ LST nx T w (x + 1) d := by
  unfold f4_watchOf
  obtain ⟨d0, hd0⟩ := hex
  refine loop_one (fun n (s : (Nat → Nat → Int32) × Int32 × Int32 × Int32) => f4_watchOf_l12 f f1 A1 (nI x) (nI w) n s.1 s.2.1 s.2.2.1 s.2.2.2) (x + 1)
    (fun j s => ∃ A2 L M d l5, s = (A2, nI L, l5, nI j) ∧ L < 65536 ∧ (∀ q, q < 16 → (L.testBit q = true ↔ (T.testBit q = true ∧ j ≤ q))) ∧ (∀ a, a < 16 → A2 0 a = nI (M a) ∧ M a < 65536) ∧ (∀ a, a < 16 → ∀ q, q < 16 → ((M a).testBit q = true ↔ (q < j ∧ T.testBit q = true ∧ d q = a))) ∧ PRC nx T w d ∧ PFX M w ∧ LST nx T w j d ∧ (x < j → l5 = nI (d x)))
    (fun P => ∃ d A', P = some (nI (d x), A') ∧ PRC nx T w d ∧ LST nx T w (x + 1) d) (by omega) ?_ (A, f1 0, -1, 0)
    ⟨A, T, fun _ => 0, d0, -1, by rw [e0]; rfl, hT, fun q _ => ⟨fun h => ⟨h, by omega⟩, fun h => h.1⟩, fun a ha => ⟨h0 a ha, by show (0 : Nat) < 65536; decide⟩, fun a _ q _ => ⟨fun h => by rw [Nat.zero_testBit] at h; exact absurd h (by decide), fun h => absurd h.1 (by omega)⟩, hd0, fun _ _ _ _ _ => rfl, fun q hq => absurd hq (by omega), fun h => absurd h (by omega)⟩
  rintro n j s hj ⟨A2, L, M, d, l5, rfl, hL, hLb, hM, hMb, hd, hpf, hls, hl5⟩
  have ea : ∀ n A l y i, f4_watchOf_l12 f f1 A1 (nI x) (nI w) (n + 1) A l y i = f4_watchOf_b12 f f1 A1 (nI x) (nI w) (f4_watchOf_l12 f f1 A1 (nI x) (nI w) n) A l y i := fun _ _ _ _ _ => rfl
  simp only [ea]
  generalize f4_watchOf_l12 f f1 A1 (nI x) (nI w) n = Kn
  unfold f4_watchOf_b12
  by_cases hxj : x < j
  · left
    have : j = x + 1 := by omega
    subst this
    rw [if_pos (by rw [ltI (by omega) (by omega)]; exact hxj), hl5 hxj]
    exact ⟨d, A2, rfl, hd, hls⟩
  right
  have hj16 : j < 16 := by omega
  refine ⟨by omega, ?_⟩
  rw [if_neg (by rw [ltI (by omega) (by omega)]; exact hxj), if_neg (ge16 hj16), has9 (by omega) (by omega)]
  by_cases q : L.testBit j = true
  · have hTj : T.testBit j = true := ((hLb j hj16).mp q).1
    rw [if_pos q, if_neg n10, shl1 (by omega), cutL_c hL]
    have pf := part_flc hw hsym hd hLb hMb
    obtain ⟨a, A3, e1, ha, hc, ⟨c, hfc⟩, hno, hpf', e3⟩ := leastW_c (f := f) (X := A1 1) hw hsym hirr hn hj16 hL q hM hpf ⟨d, (pf d).mpr (hd.congr (fun p _ _ => by show (if p < j then d p else d p) = d p; rw [ite_self]))⟩
    obtain ⟨m1, m2⟩ := hM a (by omega)
    rw [e1, Option.bind_some]
    dsimp only
    rw [e3, at_nI (show a < 16 by omega) (by decide), m1, or_nI, put_nI (show a < 16 by omega) (by decide), nI_s]
    simp only [letv]
    have hfo := (pf _).mp (hfc.out hsym hirr hL hj16 ha hc)
    have cl : cut1 L j < 65536 := mset_lt _ 16
    refine ⟨(updA A3 0 (upd (A2 0) a (nI (M a ||| 2 ^ j))), nI (cut1 L j), nI a, nI (j + 1)), rfl, _, cut1 L j, pt M a (M a ||| 2 ^ j), _, nI a, rfl, cl, fun r hr => ?_, fun b hb => ?_, fun b hb r hr => ?_, hfo, hpf', fun r hrj hr hTr c' hc' hag => ?_, fun h => ?_⟩
    · rw [cut1_bit hL, Bool.and_eq_true, hLb r hr, Bool.not_eq_true', beq_eq_false_iff_ne]
      constructor
      · rintro ⟨⟨h1, h2⟩, h3⟩; exact ⟨h1, by omega⟩
      · rintro ⟨h1, h2⟩; exact ⟨⟨h1, by omega⟩, by omega⟩
    · rw [updA_s]
      by_cases e : b = a
      · subst e; rw [upd_s, pt_s]; exact ⟨rfl, Nat.or_lt_two_pow (n := 16) m2 (pow16 hj16)⟩
      · rw [upd_n e, pt_n e]; exact hM b hb
    · show _ ↔ (r < j + 1 ∧ T.testBit r = true ∧ (if r < j then d r else pt c j a r) = b)
      have old := hMb b hb r hr
      by_cases e : r = j
      · subst e
        rw [if_neg (by omega), pt_s]
        by_cases e2 : b = a
        · subst e2
          rw [pt_s, or_bit']
          exact ⟨fun _ => ⟨by omega, hTj, rfl⟩, fun _ => by simp⟩
        · rw [pt_n e2, old]
          exact ⟨fun h => absurd h.1 (by omega), fun h => absurd h.2.2.symm e2⟩
      · have same : (pt M a (M a ||| 2 ^ j) b).testBit r = (M b).testBit r := by
          by_cases e2 : b = a
          · subst e2; rw [pt_s, or_bit', beq_eq_false_iff_ne.mpr e, Bool.or_false]
          · rw [pt_n e2]
        rw [same, old]
        by_cases e3 : r < j
        · rw [if_pos e3]
          exact ⟨fun h => ⟨by omega, h.2⟩, fun h => ⟨e3, h.2⟩⟩
        · exact ⟨fun h => absurd h.1 e3, fun h => absurd h.1 (by omega)⟩
    · show (if r < j then d r else pt c j a r) ≤ c' r
      by_cases e : r = j
      · subst e
        rw [if_neg (by omega), pt_s]
        by_cases lt : c' r < a
        · exfalso
          refine hno (c' r) lt ⟨c', (pf c').mpr (hc'.congr (fun p hp hTp => ?_)), rfl⟩
          show (if p < r then d p else c' p) = c' p
          by_cases u : p < r
          · rw [if_pos u]
            have := hag p u hTp
            have this' : c' p = (if p < r then d p else pt c r a p) := this
            rw [if_pos u] at this'
            exact this'.symm
          · rw [if_neg u]
        · omega
      · have e3 : r < j := by omega
        rw [if_pos e3]
        refine hls r e3 hr hTr c' hc' (fun p hp hTp => ?_)
        have this' : c' p = (if p < j then d p else pt c j a p) := hag p hp hTp
        rw [if_pos (by omega)] at this'
        exact this'
    · have : x = j := by omega
      subst this
      show nI a = nI (if x < x then d x else pt c x a x)
      rw [if_neg (by omega), pt_s]
  · rw [if_neg q, if_pos rfl, nI_s]
    have hTj : ¬ T.testBit j = true := fun h => q ((hLb j hj16).mpr ⟨h, Nat.le_refl _⟩)
    refine ⟨(A2, nI L, l5, nI (j + 1)), rfl, A2, L, M, d, l5, rfl, hL, fun r hr => ?_, hM, fun b hb r hr => ?_, hd, hpf, fun r hrj hr hTr => ?_, fun h => ?_⟩
    · rw [hLb r hr]
      constructor
      · rintro ⟨h1, h2⟩
        refine ⟨h1, ?_⟩
        by_cases e : r = j
        · subst e; exact absurd h1 hTj
        · omega
      · rintro ⟨h1, h2⟩; exact ⟨h1, by omega⟩
    · rw [hMb b hb r hr]
      constructor
      · rintro ⟨h1, h2⟩; exact ⟨by omega, h2⟩
      · rintro ⟨h1, h2, h3⟩
        by_cases e : r = j
        · subst e; exact absurd h2 hTj
        · exact ⟨by omega, h2, h3⟩
    · by_cases e : r = j
      · subst e; exact absurd hTr hTj
      · exact hls r (by omega) hr hTr
    · have : x = j := by omega
      subst this
      exact absurd hTx hTj
