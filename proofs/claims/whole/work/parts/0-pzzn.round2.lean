/-! the class's rows of walks -/
theorem nI_zero {a : Nat} (ha : a < 4294967296) : nI a = 0 ↔ a = 0 := by
  constructor
  · intro h
    apply Nat.eq_of_testBit_eq
    intro i
    rw [Nat.zero_testBit]
    by_cases hi : i < 32
    · rw [← bt_nI a hi, h]
      exact (by decide +kernel : ∀ i, i < 32 → bt 0 i = false) i hi
    · exact Nat.testBit_lt_two_pow (Nat.lt_of_lt_of_le ha (Nat.pow_le_pow_right (n := 2) (i := 32) (by decide) (by omega)))
  · rintro rfl; rfl
def stw (w : Nat) : Nat := (w ||| w / 65536) &&& 65535
theorem stw_lt {w : Nat} : stw w < 65536 := by
  unfold stw
  have : (w ||| w / 65536) &&& 65535 ≤ 65535 := Nat.and_le_right
  omega
theorem hi32 {a i : Nat} (ha : a < 4294967296) (hi : ¬ i < 32) : a.testBit i = false := Nat.testBit_lt_two_pow (Nat.lt_of_lt_of_le ha (Nat.pow_le_pow_right (n := 2) (i := 32) (by decide) (by omega)))
theorem stw_bit {w q : Nat} (hq : q < 16) : (stw w).testBit q = (w.testBit q || w.testBit (16 + q)) := by
  unfold stw
  rw [Nat.testBit_and, Nat.testBit_or, show (65536 : Nat) = 2 ^ 16 from rfl, Nat.testBit_div_two_pow, show (65535 : Nat) = 2 ^ 16 - 1 from rfl, Nat.testBit_two_pow_sub_one, decide_eq_true hq, Bool.and_true, Nat.add_comm q 16]
theorem stw_ne {w : Nat} (hw : w < 4294967296) : stw w ≠ 0 ↔ w ≠ 0 := by
  constructor
  · intro h e
    subst e
    exact h (by decide)
  · intro h e
    apply h
    apply Nat.eq_of_testBit_eq
    intro i
    rw [Nat.zero_testBit]
    by_cases h1 : i < 16
    · have := stw_bit (w := w) h1
      rw [e, Nat.zero_testBit] at this
      cases hh : w.testBit i
      · rfl
      · rw [hh] at this; exact absurd this.symm (by simp)
    · by_cases h2 : i < 32
      · have := stw_bit (w := w) (q := i - 16) (by omega)
        rw [e, Nat.zero_testBit, show 16 + (i - 16) = i by omega] at this
        cases hh : w.testBit i
        · rfl
        · rw [hh] at this; exact absurd this.symm (by simp)
      · exact hi32 hw h2
def WLK (p : Nat) (LO HI : Nat → Nat → Prop) (m : Nat) (vs W : Nat → Nat) (A : Nat → Nat → Int32) (f : Nat → Int32) : Prop :=
  f 2 = nI m ∧ (∀ i, i < m → A 1 i = nI (vs i) ∧ vs i < 65536 ∧ (vs i).testBit p = true ∧ popc (vs i) 16 ≤ 8) ∧ (∀ i j, i < m → j < m → vs i = vs j → i = j) ∧ ∀ S, S < 65536 → A 0 S = nI (W S) ∧ W S < 4294967296 ∧ (∀ q, q < 16 → ((W S).testBit q = true ↔ LO S q) ∧ ((W S).testBit (16 + q) = true ↔ HI S q)) ∧ (W S ≠ 0 ↔ ∃ i, i < m ∧ vs i = S)
theorem WLK.le {p m : Nat} {LO HI : Nat → Nat → Prop} {vs W : Nat → Nat} {A : Nat → Nat → Int32} {f : Nat → Int32} (hp : p < 16) (h : WLK p LO HI m vs W A f) : m ≤ 16384 := vis_count hp (fun i hi => (h.2.1 i hi).2) h.2.2.1
theorem WLK.to {p m : Nat} {LO HI LO' HI' : Nat → Nat → Prop} {vs W : Nat → Nat} {A : Nat → Nat → Int32} {f : Nat → Int32} (h : WLK p LO HI m vs W A f) (e1 : ∀ S q, S < 65536 → q < 16 → (LO S q ↔ LO' S q)) (e2 : ∀ S q, S < 65536 → q < 16 → (HI S q ↔ HI' S q)) : WLK p LO' HI' m vs W A f := by
  obtain ⟨a, b, c, d⟩ := h
  refine ⟨a, b, c, fun S hS => ?_⟩
  obtain ⟨d1, d2, d3, d4⟩ := d S hS
  exact ⟨d1, d2, fun q hq => ⟨(d3 q hq).1.trans (e1 S q hS hq), (d3 q hq).2.trans (e2 S q hS hq)⟩, d4⟩
theorem add_c {p m S q : Nat} {LO HI : Nat → Nat → Prop} {vs W : Nat → Nat} {A : Nat → Nat → Int32} {f : Nat → Int32} (hp : p < 16) (h : WLK p LO HI m vs W A f) (hS : S < 65536) (hq : q < 16) (hSp : S.testBit p = true) (h8 : popc S 16 ≤ 8) : ∃ A' f' m' vs' W', f8_add f A (nI S) (nI (2 ^ q)) = some (A', f') ∧ WLK p LO (fun S' q' => HI S' q' ∨ (S' = S ∧ q' = q)) m' vs' W' A' f' ∧ m ≤ m' ∧ ∀ i, i < m → vs' i = vs i := by
  obtain ⟨a, b, c, d⟩ := h
  obtain ⟨d1, d2, d3, d4⟩ := d S hS
  have h2q : 2 ^ q < 2 ^ 16 := pow16 hq
  have h2q' : 2 ^ (q + 16) < 2 ^ 32 := Nat.pow_lt_pow_right (by decide) (by omega)
  have wb : ∀ i, (W S ||| 2 ^ (q + 16)).testBit i = ((W S).testBit i || i == q + 16) := fun i => or_bit' _ _ _
  have put : ∀ (A1 : Nat → Nat → Int32) (f1 : Nat → Int32), A1 0 = A 0 → f8_add_b35 (nI S) (nI (2 ^ q)) A1 f1 (nI (W S)) = some (updA A1 0 (upd (A 0) S (nI (W S ||| 2 ^ (q + 16)))), f1) := by
    intro A1 f1 e0
    unfold f8_add_b35
    simp only [letv]
    rw [show (16 : Int32) = nI 16 from rfl, shl_nI (by omega) (by omega), or_nI, put_nI hS (by decide), e0, ← Nat.pow_add]
  -- what stands once the new end is noted
  have all : ∀ (m' : Nat) (vs' : Nat → Nat), (W S ≠ 0 → m' = m ∧ vs' = vs) → (W S = 0 → m' = m + 1 ∧ vs' = pt vs m S) → ∀ S', S' < 65536 → upd (A 0) S (nI (W S ||| 2 ^ (q + 16))) S' = nI (pt W S (W S ||| 2 ^ (q + 16)) S') ∧ pt W S (W S ||| 2 ^ (q + 16)) S' < 4294967296 ∧ (∀ q', q' < 16 → ((pt W S (W S ||| 2 ^ (q + 16)) S').testBit q' = true ↔ LO S' q') ∧ ((pt W S (W S ||| 2 ^ (q + 16)) S').testBit (16 + q') = true ↔ (HI S' q' ∨ (S' = S ∧ q' = q)))) ∧ (pt W S (W S ||| 2 ^ (q + 16)) S' ≠ 0 ↔ ∃ i, i < m' ∧ vs' i = S') := by
    intro m' vs' k1 k0 S' hS'
    by_cases e : S' = S
    · subst e
      rw [upd_s, pt_s]
      refine ⟨rfl, Nat.or_lt_two_pow (n := 32) d2 h2q', fun q' hq' => ⟨?_, ?_⟩, ?_⟩
      · rw [wb, Bool.or_eq_true, beq_iff_eq]
        have := (d3 q' hq').1
        rw [this]
        exact ⟨fun h => h.resolve_right (by omega), Or.inl⟩
      · rw [wb, Bool.or_eq_true, beq_iff_eq, (d3 q' hq').2]
        constructor
        · rintro (h | h)
          · exact Or.inl h
          · exact Or.inr ⟨rfl, by omega⟩
        · rintro (h | ⟨_, h⟩)
          · exact Or.inl h
          · exact Or.inr (by omega)
      · have ne : W S' ||| 2 ^ (q + 16) ≠ 0 := fun e => by
          have := wb (q + 16)
          rw [e, Nat.zero_testBit] at this
          simp at this
        refine ⟨fun _ => ?_, fun _ => ne⟩
        by_cases w0 : W S' = 0
        · obtain ⟨rfl, rfl⟩ := k0 w0
          exact ⟨m, by omega, pt_s⟩
        · obtain ⟨rfl, rfl⟩ := k1 w0
          exact d4.mp w0
    · obtain ⟨x1, x2, x3, x4⟩ := d S' hS'
      rw [upd_n e, pt_n e]
      refine ⟨x1, x2, fun q' hq' => ⟨(x3 q' hq').1, ?_⟩, ?_⟩
      · rw [(x3 q' hq').2]
        exact ⟨Or.inl, fun h => h.resolve_right (fun h => e h.1)⟩
      · rw [x4]
        by_cases w0 : W S = 0
        · obtain ⟨rfl, rfl⟩ := k0 w0
          constructor
          · rintro ⟨i, hi, rfl⟩
            exact ⟨i, by omega, pt_n (by omega)⟩
          · rintro ⟨i, hi, h⟩
            by_cases u : i = m
            · subst u; rw [pt_s] at h; exact absurd h.symm e
            · rw [pt_n u] at h; exact ⟨i, by omega, h⟩
        · obtain ⟨rfl, rfl⟩ := k1 w0
          exact Iff.rfl
  unfold f8_add
  rw [at_nI hS (by decide), d1]
  by_cases w0 : W S = 0
  · rw [if_pos ((nI_zero d2).mpr w0)]
    simp only [letv]
    have new : ∀ i, i < m → vs i ≠ S := fun i hi e => d4.mpr ⟨i, hi, e⟩ w0
    have inj : ∀ i j, i < m + 1 → j < m + 1 → pt vs m S i = pt vs m S j → i = j := by
      intro i j hi hj e
      by_cases u : i = m
      · by_cases u2 : j = m
        · omega
        · subst u; rw [pt_s, pt_n u2] at e; exact absurd e.symm (new j (by omega))
      · by_cases u2 : j = m
        · subst u2; rw [pt_s, pt_n u] at e; exact absurd e (new i (by omega))
        · rw [pt_n u, pt_n u2] at e; exact c i j (by omega) (by omega) e
    have vis : ∀ i, i < m + 1 → pt vs m S i < 65536 ∧ (pt vs m S i).testBit p = true ∧ popc (pt vs m S i) 16 ≤ 8 := by
      intro i hi
      by_cases u : i = m
      · subst u; rw [pt_s]; exact ⟨hS, hSp, h8⟩
      · rw [pt_n u]; exact (b i (by omega)).2
    have cap := vis_count hp vis inj
    rw [a, put_nI (show m < 16384 by omega) (by decide), nI_s, put _ _ (updA_n (by decide))]
    refine ⟨_, _, m + 1, pt vs m S, pt W S (W S ||| 2 ^ (q + 16)), rfl, ⟨upd_s, fun i hi => ⟨?_, vis i hi⟩, inj, fun S' hS' => ?_⟩, by omega, fun i hi => pt_n (by omega)⟩
    · rw [updA_n (by decide), updA_s]
      by_cases u : i = m
      · subst u; rw [upd_s, pt_s]
      · rw [upd_n u, pt_n u]; exact (b i (by omega)).1
    · rw [updA_s]
      exact all (m + 1) (pt vs m S) (fun h => absurd w0 h) (fun _ => ⟨rfl, rfl⟩) S' hS'
  · rw [if_neg (fun h => w0 ((nI_zero d2).mp h)), put _ _ rfl]
    refine ⟨_, _, m, vs, pt W S (W S ||| 2 ^ (q + 16)), rfl, ⟨a, fun i hi => ⟨?_, (b i hi).2⟩, c, fun S' hS' => ?_⟩, Nat.le_refl _, fun _ _ => rfl⟩
    · rw [updA_n (by decide)]; exact (b i hi).1
    · rw [updA_s]
      exact all m vs (fun _ => ⟨rfl, rfl⟩) (fun h => absurd h w0) S' hS'
theorem settle_c {p m : Nat} {LO HI : Nat → Nat → Prop} {vs W : Nat → Nat} {A : Nat → Nat → Int32} {f : Nat → Int32} (hp : p < 16) (h : WLK p LO HI m vs W A f) : ∃ A', f8_settle f A = some A' ∧ WLK p (fun S q => LO S q ∨ HI S q) (fun _ _ => False) m vs (fun S => stw (W S)) A' f := by
  have hm := h.le hp
  obtain ⟨a, b, c, d⟩ := h
  unfold f8_settle
  refine loop_one (fun n (x : (Nat → Nat → Int32) × Int32) => f8_settle_l2 f n x.1 x.2) m
    (fun i x => ∃ A1, x = (A1, nI i) ∧ A1 1 = A 1 ∧ ∀ S, S < 65536 → ((∃ j, j < i ∧ vs j = S) → A1 0 S = nI (stw (W S))) ∧ ((¬ ∃ j, j < i ∧ vs j = S) → A1 0 S = nI (W S)))
    (fun P => ∃ A', P = some A' ∧ WLK p (fun S q => LO S q ∨ HI S q) (fun _ _ => False) m vs (fun S => stw (W S)) A' f) (by omega) ?_ (A, 0) ⟨A, rfl, rfl, fun S hS => ⟨fun ⟨j, h, _⟩ => absurd h (by omega), fun _ => (d S hS).1⟩⟩
  rintro n i x hi ⟨A1, rfl, h1, h0⟩
  have ea : ∀ n A i, f8_settle_l2 f (n + 1) A i = f8_settle_b2 f (f8_settle_l2 f n) A i := fun _ _ _ => rfl
  simp only [ea]
  unfold f8_settle_b2
  rw [a]
  by_cases him : m ≤ i
  · left
    have : i = m := by omega
    subst this
    rw [if_pos (by rw [leI (by omega) (by omega)]; omega)]
    refine ⟨A1, rfl, a, fun j hj => by rw [h1]; exact b j hj, c, fun S hS => ?_⟩
    obtain ⟨d1, d2, d3, d4⟩ := d S hS
    refine ⟨?_, Nat.lt_trans stw_lt (by decide), fun q hq => ⟨?_, ?_⟩, (stw_ne d2).trans d4⟩
    · by_cases ex : ∃ j, j < i ∧ vs j = S
      · exact (h0 S hS).1 ex
      · rw [(h0 S hS).2 ex]
        have : W S = 0 := by
          by_cases w0 : W S = 0
          · exact w0
          · exact absurd (d4.mp w0) ex
        show nI (W S) = nI (stw (W S))
        rw [this]; rfl
    · rw [stw_bit hq, Bool.or_eq_true, (d3 q hq).1, (d3 q hq).2]
    · rw [hi_bit stw_lt (by omega)]
      exact ⟨fun h => absurd h (by decide), False.elim⟩
  · right
    obtain ⟨v1, v2, -⟩ := b i (by omega)
    rw [if_neg (by rw [leI (by omega) (by omega)]; omega), h1, at_nI (show i < 16384 by omega) (by decide), v1, at_nI v2 (by decide)]
    have w1 : A1 0 (vs i) = nI (W (vs i)) := (h0 _ v2).2 (fun ⟨j, h, e⟩ => by
      have := c j i (by omega) (by omega) e
      omega)
    obtain ⟨-, d2, -⟩ := d (vs i) v2
    rw [w1, show (16 : Int32) = nI 16 from rfl, ushr_nI (j := 16) d2 (by decide), or_nI, show (65535 : Int32) = nI 65535 from rfl, andI, put_nI v2 (by decide), nI_s]
    simp only [letv]
    refine ⟨by omega, (updA A1 0 (upd (A1 0) (vs i) (nI (stw (W (vs i))))), nI (i + 1)), rfl, _, rfl, updA_n (show (1 : Nat) ≠ 0 by decide) |>.trans h1, fun S hS => ?_⟩
    rw [updA_s]
    by_cases e : S = vs i
    · subst e
      rw [upd_s]
      exact ⟨fun _ => rfl, fun h => absurd ⟨i, by omega, rfl⟩ h⟩
    · rw [upd_n e]
      refine ⟨fun ⟨j, hj, h⟩ => (h0 S hS).1 ⟨j, ?_, h⟩, fun h => (h0 S hS).2 (fun ⟨j, hj, h'⟩ => h ⟨j, by omega, h'⟩)⟩
      by_cases u : j = i
      · subst u; exact absurd h.symm e
      · omega
