/-! the reference's round -/
theorem nar16 : ∀ v, v < 16 → vp_nar .byte (i2b (nI v)) = nI v := by decide +kernel
theorem nar0 : vp_nar .byte 0 = 0 := by decide +kernel
theorem nar1 : vp_nar .byte 1 = 1 := by decide +kernel
/-- the rows of the reference's round -/
def QST (many : Nat) (d ln : Nat → Nat) (B B0 : Nat → Nat → Int32) : Prop := (∀ c, c < 1048576 → B 43 c = nI (d c)) ∧ (∀ i, i < many → B 44 i = nI (ln i)) ∧ ∀ j, j ≠ 43 → j ≠ 44 → B j = B0 j
theorem clean_c {g : Nat → Int32} {p k w many : Nat} {b : Nat} {d ln v : Nat → Nat} {B B0 : Nat → Nat → Int32} (hw : w ≤ 1) (hm : many ≤ 524288) (hl : ∀ i, i < many → ln i < 1048576) (hd : ∀ c, d c ≠ 0 → ∃ i, i < many ∧ ln i = c) (hQ : QST many d ln B B0) (hb : b < 65536) (hX : ∀ p, p < 16 → B0 0 p = nI (v p)) :
    ∃ B', f10_round_l242 g (nI p) (nI k) (nI w) NF B (nI many) (nI b) 0 = some (if w = 0 then nI (tsm v b 16) else nI b, B') ∧ (∀ c, c < 1048576 → B' 43 c = 0) ∧ ∀ j, j ≠ 43 → j ≠ 44 → B' j = B0 j := by
  refine loop_one (fun n (x : (Nat → Nat → Int32) × Int32) => f10_round_l242 g (nI p) (nI k) (nI w) n x.1 (nI many) (nI b) x.2) many
    (fun i x => ∃ B1, x = (B1, nI i) ∧ B1 44 = B 44 ∧ (∀ c, c < 1048576 → ((∃ j, j < i ∧ ln j = c) → B1 43 c = 0) ∧ ((¬ ∃ j, j < i ∧ ln j = c) → B1 43 c = nI (d c))) ∧ ∀ j, j ≠ 43 → j ≠ 44 → B1 j = B0 j)
    (fun P => ∃ B', P = some (if w = 0 then nI (tsm v b 16) else nI b, B') ∧ (∀ c, c < 1048576 → B' 43 c = 0) ∧ ∀ j, j ≠ 43 → j ≠ 44 → B' j = B0 j) (by omega) ?_ (B, 0)
    ⟨B, rfl, rfl, fun c hc => ⟨fun ⟨j, h, _⟩ => absurd h (by omega), fun _ => hQ.1 c hc⟩, hQ.2.2⟩
  rintro n i x hi ⟨B1, rfl, h44, h43, hf⟩
  have ea : ∀ n B x i, f10_round_l242 g (nI p) (nI k) (nI w) (n + 1) B x (nI b) i = f10_round_b242 g (nI p) (nI k) (nI w) (f10_round_l242 g (nI p) (nI k) (nI w) n) B x (nI b) i := fun _ _ _ _ => rfl
  simp only [ea]
  generalize f10_round_l242 g (nI p) (nI k) (nI w) n = Kn
  unfold f10_round_b242
  by_cases him : many ≤ i
  · left
    have : i = many := by omega
    subst this
    rw [if_pos (by rw [leI (by omega) (by omega)]; omega), sum10 (v := v) (fun p hp => by rw [hf 0 (by decide) (by decide)]; exact hX p hp) hb, Option.bind_some]
    refine ⟨B1, ?_, fun c hc => ?_, hf⟩
    · by_cases e : w = 0
      · subst e; rw [if_pos (show nI 0 = (0 : Int32) from rfl), if_pos rfl]
      · rw [if_neg (show ¬ nI w = 0 by rw [show (0 : Int32) = nI 0 from rfl, eqI (by omega) (by omega)]; exact e), if_neg e]
    · by_cases ex : ∃ j, j < i ∧ ln j = c
      · exact (h43 c hc).1 ex
      · rw [(h43 c hc).2 ex]
        have : d c = 0 := by
          by_cases w0 : d c = 0
          · exact w0
          · exact absurd (hd c w0) ex
        rw [this]; rfl
  right
  have him' : i < many := by omega
  refine ⟨him', ?_⟩
  have l1 := hl i him'
  rw [if_neg (by rw [leI (by omega) (by omega)]; omega), if_neg (nI_in (show i < 524288 by omega) (by decide)), gx_nI (by omega), h44, hQ.2.1 i him', if_neg (nI_in l1 (by decide)), ux_nI (by omega), nar0, nI_s]
  simp only [letv]
  refine ⟨(updA B1 43 (upd (B1 43) (ln i) 0), nI (i + 1)), rfl, _, rfl, (updA_n (by decide)).trans h44, fun c hc => ?_, fun j h1 h2 => (updA_n h1).trans (hf j h1 h2)⟩
  rw [updA_s]
  by_cases e : c = ln i
  · subst e
    rw [upd_s]
    exact ⟨fun _ => rfl, fun h => absurd ⟨i, by omega, rfl⟩ h⟩
  · rw [upd_n e]
    refine ⟨fun ⟨j, hj, h⟩ => (h43 c hc).1 ⟨j, ?_, h⟩, fun h => (h43 c hc).2 (fun ⟨j, hj, h'⟩ => h ⟨j, by omega, h'⟩)⟩
    by_cases u : j = i
    · subst u; exact absurd h.symm e
    · omega
/-- the neighbours of the head -/
theorem near140_c {g : Nat → Int32} {p k w h many b : Nat} {nx d ln : Nat → Nat} {B B0 : Nat → Nat → Int32} (Kn : (Nat → Nat → Int32) → Int32 → Int32 → Int32 → Option (Int32 × (Nat → Nat → Int32))) (hp : p < 16) (hk8 : k ≤ 8) (hn : ∀ p, p < 16 → B0 3 p = nI (nx p) ∧ nx p < 65536) (H : RQ nx p k h 0 many d ln) (hh : h < many) (hk : d (ln h) ≤ k) (hQ : QST many d ln B B0) :
    ∃ B' many' d' ln', f10_round_l140 g (nI p) (nI k) (nI w) Kn NF B (nI many) (nI b) (nI h) (nI (ln h / 16)) (nI (ln h % 16)) 0 = Kn B' (nI many') (nI b) (nI (h + 1)) ∧ RQ nx p k (h + 1) 0 many' d' ln' ∧ QST many' d' ln' B' B0 ∧ ∀ i, i ≤ h → ln' i = ln i := by
  refine loop_one (fun n (x : (Nat → Nat → Int32) × Int32 × Int32) => f10_round_l140 g (nI p) (nI k) (nI w) Kn n x.1 x.2.1 (nI b) (nI h) (nI (ln h / 16)) (nI (ln h % 16)) x.2.2) 16
    (fun j x => ∃ B1 many1 d1 ln1, x = (B1, nI many1, nI j) ∧ RQ nx p k h j many1 d1 ln1 ∧ h < many1 ∧ QST many1 d1 ln1 B1 B0 ∧ d1 (ln h) ≤ k ∧ ∀ i, i ≤ h → ln1 i = ln i)
    (fun P => ∃ B' many' d' ln', P = Kn B' (nI many') (nI b) (nI (h + 1)) ∧ RQ nx p k (h + 1) 0 many' d' ln' ∧ QST many' d' ln' B' B0 ∧ ∀ i, i ≤ h → ln' i = ln i) (by decide) ?_ (B, nI many, 0)
    ⟨B, many, d, ln, rfl, H, hh, hQ, hk, fun _ _ => rfl⟩
  rintro n j x hj ⟨B1, many1, d1, ln1, rfl, H1, hh1, hQ1, hk1, hl1⟩
  have ea : ∀ n B m j, f10_round_l140 g (nI p) (nI k) (nI w) Kn (n + 1) B m (nI b) (nI h) (nI (ln h / 16)) (nI (ln h % 16)) j = f10_round_b140 g (nI p) (nI k) (nI w) Kn (f10_round_l140 g (nI p) (nI k) (nI w) Kn n) B m (nI b) (nI h) (nI (ln h / 16)) (nI (ln h % 16)) j := fun _ _ _ _ => rfl
  simp only [ea]
  generalize f10_round_l140 g (nI p) (nI k) (nI w) Kn n = Ln
  unfold f10_round_b140
  by_cases h16 : 16 ≤ j
  · left
    have : j = 16 := by omega
    subst this
    rw [if_pos (by decide), nI_s]
    exact ⟨B1, many1, d1, ln1, rfl, H1.next hh1 (Or.inl rfl), hQ1, hl1⟩
  right
  have hj16 : j < 16 := by omega
  refine ⟨hj16, ?_⟩
  have e1 : ln1 h = ln h := hl1 h (Nat.le_refl _)
  have cap := H1.le hp
  have ok := rch_ok hp _ _ _ (H1.2.2.1 h hh1).2.2
  rw [e1] at ok
  obtain ⟨n1, n2⟩ := hn (ln h % 16) ok.2.1
  have clt : 16 * (ln h / 16 ||| 2 ^ j) + j < 1048576 := by
    have : ln h / 16 ||| 2 ^ j < 65536 := Nat.or_lt_two_pow (n := 16) ok.1 (pow16 hj16)
    omega
  rw [if_neg (ge16 hj16), if_neg (nI_in ok.2.1 (by decide)), gx_nI (by omega), hQ1.2.2 3 (by decide) (by decide), n1, has10 (by omega) (by omega), nI_s, shl1 (by omega), or_nI, show (16 : Int32) = nI 16 from rfl, mulI, addI, if_neg (nI_in clt (by decide)), gx_nI (by omega), hQ1.1 _ clt]
  have step : ∀ B' many' d' ln', RQ nx p k h (j + 1) many' d' ln' → h < many' → QST many' d' ln' B' B0 → d' (ln h) ≤ k → (∀ i, i ≤ h → ln' i = ln i) → ∃ s' : (Nat → Nat → Int32) × Int32 × Int32, Ln B' (nI many') (nI b) (nI h) (nI (ln h / 16)) (nI (ln h % 16)) (nI (j + 1)) = Ln s'.1 s'.2.1 (nI b) (nI h) (nI (ln h / 16)) (nI (ln h % 16)) s'.2.2 ∧ ∃ B1 many1 d1 ln1, s' = (B1, nI many1, nI (j + 1)) ∧ RQ nx p k h (j + 1) many1 d1 ln1 ∧ h < many1 ∧ QST many1 d1 ln1 B1 B0 ∧ d1 (ln h) ≤ k ∧ ∀ i, i ≤ h → ln1 i = ln i :=
    fun B' many' d' ln' a1 a2 a3 a4 a5 => ⟨(B', nI many', nI (j + 1)), rfl, B', many', d', ln', rfl, a1, a2, a3, a4, a5⟩
  by_cases q : (nx (ln h % 16)).testBit j = true
  · rw [if_pos q, if_neg n10]
    by_cases h0 : d1 (NC (ln h) j) = 0
    · have h0' : d1 (16 * (ln h / 16 ||| 2 ^ j) + j) = 0 := h0
      rw [h0', if_pos (show nI 0 = (0 : Int32) from rfl)]
      obtain ⟨lt, new⟩ := H1.new hp hh1 hj16 (by rw [e1]; exact hk1) (by rw [e1]; exact q) (by rw [e1]; exact h0)
      rw [e1] at new
      have hlt : ln h < 1048576 := by omega
      rw [if_neg (nI_in (show h < 524288 by omega) (by decide)), gx_nI (by omega), hQ1.2.1 h hh1, e1, if_neg (nI_in hlt (by decide)), gx_nI (by omega), hQ1.1 _ hlt, nI_s, nar16 _ (by omega), ux_nI (by omega)]
      simp only [letv]
      rw [if_neg (nI_in clt (by decide)), if_neg (nI_in lt (by decide)), ux_nI (by omega), nI_s]
      have ne : ln h ≠ NC (ln h) j := fun e => by
        have := (H1.2.2.1 h hh1).1
        rw [e1, e, h0] at this
        omega
      have new2 : RQ nx p k h (j + 1) (many1 + 1) (pt d1 (NC (ln h) j) (d1 (ln h) + 1)) (pt ln1 many1 (NC (ln h) j)) := new.skip (by omega) (fun _ => by
        rw [pt_n (show h ≠ many1 by omega), e1, pt_s]; omega)
      refine step _ (many1 + 1) _ _ new2 (by omega) ⟨fun c hc => ?_, fun i hi => ?_, fun l c1 c2 => ?_⟩ (by rw [pt_n ne]; exact hk1) (fun i hi => by rw [pt_n (by omega)]; exact hl1 i hi)
      · rw [updA_n (by decide), updA_s]
        by_cases e : c = NC (ln h) j
        · rw [e, pt_s]; exact upd_s
        · rw [pt_n e]; exact (upd_n e).trans (hQ1.1 c hc)
      · rw [updA_s]
        by_cases e : i = many1
        · subst e; rw [upd_s, pt_s]; rfl
        · rw [upd_n e, pt_n e, updA_n (by decide)]; exact hQ1.2.1 i (by omega)
      · rw [updA_n c2, updA_n c1]; exact hQ1.2.2 l c1 c2
    · have h0' : ¬ d1 (16 * (ln h / 16 ||| 2 ^ j) + j) = 0 := h0
      have dlt : d1 (16 * (ln h / 16 ||| 2 ^ j) + j) ≤ k + 1 := by
        obtain ⟨i, hi, e⟩ := H1.2.2.2.1 _ h0
        have := (H1.2.2.1 i hi).2.1
        rw [e] at this
        exact this
      rw [if_neg (by rw [show (0 : Int32) = nI 0 from rfl, eqI (by omega) (by omega)]; exact h0')]
      exact step _ _ _ _ (H1.skip hh1 (fun _ => by rw [e1]; exact h0)) hh1 hQ1 hk1 hl1
  · rw [if_neg q, if_pos rfl]
    exact step _ _ _ _ (H1.skip hh1 (fun h => absurd (by rw [e1] at h; exact h) q)) hh1 hQ1 hk1 hl1
theorem round10_c {g : Nat → Int32} {p k w : Nat} {nx v : Nat → Nat} {B0 : Nat → Nat → Int32} (hp : p < 16) (hk8 : k ≤ 8) (hw : w ≤ 1) (hn : ∀ p, p < 16 → B0 3 p = nI (nx p) ∧ nx p < 65536) (hX : ∀ p, p < 16 → B0 0 p = nI (v p)) (hv : ∀ p, p < 16 → v p ≤ 99) {many : Nat} {d ln : Nat → Nat} {B : Nat → Nat → Int32} (H : RQ nx p k 0 0 many d ln) (hQ : QST many d ln B B0) :
    ∃ b B', f10_round_l66 g (nI p) (nI k) (nI w) NF B (nI many) (nI (2 ^ p)) 0 = some (if w = 0 then nI (tsm v b 16) else nI b, B') ∧ b < 65536 ∧ rch nx p k b p ∧ (∀ S, rch nx p k S p → ¬ BTT v S b) ∧ (∀ c, c < 1048576 → B' 43 c = 0) ∧ ∀ j, j ≠ 43 → j ≠ 44 → B' j = B0 j := by
  refine loop_one (fun n (x : (Nat → Nat → Int32) × Int32 × Int32 × Int32) => f10_round_l66 g (nI p) (nI k) (nI w) n x.1 x.2.1 x.2.2.1 x.2.2.2) 524288
    (fun h x => ∃ B1 many1 d1 ln1 b, x = (B1, nI many1, nI b, nI h) ∧ RQ nx p k h 0 many1 d1 ln1 ∧ QST many1 d1 ln1 B1 B0 ∧ b < 65536 ∧ rch nx p k b p ∧ ∀ i, i < h → ln1 i % 16 = p → ¬ BTT v (ln1 i / 16) b)
    (fun P => ∃ b B', P = some (if w = 0 then nI (tsm v b 16) else nI b, B') ∧ b < 65536 ∧ rch nx p k b p ∧ (∀ S, rch nx p k S p → ¬ BTT v S b) ∧ (∀ c, c < 1048576 → B' 43 c = 0) ∧ ∀ j, j ≠ 43 → j ≠ 44 → B' j = B0 j) (by decide) ?_ (B, nI many, nI (2 ^ p), 0)
    ⟨B, many, d, ln, 2 ^ p, rfl, H, hQ, pow16 hp, rch_mono (t := 0) (by omega) ⟨rfl, rfl⟩, fun i hi => absurd hi (by omega)⟩
  rintro n h x hh ⟨B1, many1, d1, ln1, b, rfl, H1, hQ1, b1, b2, b3⟩
  have ea : ∀ n B m b h, f10_round_l66 g (nI p) (nI k) (nI w) (n + 1) B m b h = f10_round_b66 g (nI p) (nI k) (nI w) (f10_round_l66 g (nI p) (nI k) (nI w) n) B m b h := fun _ _ _ _ _ => rfl
  simp only [ea]
  generalize f10_round_l66 g (nI p) (nI k) (nI w) n = Kn
  unfold f10_round_b66
  have cap := H1.le hp
  by_cases hm : many1 ≤ h
  · left
    have : h = many1 := by have := H1.1; omega
    subst this
    rw [if_pos (by rw [leI (by omega) (by omega)]; omega)]
    obtain ⟨B', c1, c2, c3⟩ := clean_c (g := g) (p := p) (k := k) hw cap (fun i hi => by have := H1.code hp i hi; omega) H1.2.2.2.1 hQ1 b1 hX
    refine ⟨b, B', c1, b1, b2, fun S hS => ?_, c2, c3⟩
    obtain ⟨i, hi, rfl, e⟩ := (H1.done hp S).mpr hS
    exact b3 i hi e
  right
  have hm' : h < many1 := by omega
  refine ⟨by omega, ?_⟩
  obtain ⟨c1, c2, c3⟩ := H1.2.2.1 h hm'
  have ok := rch_ok hp _ _ _ c3
  have clt : ln1 h < 1048576 := by omega
  -- on to the neighbours, then to the next
  have go : ∀ b', b' < 65536 → rch nx p k b' p → (∀ i, i < h + 1 → ln1 i % 16 = p → ¬ BTT v (ln1 i / 16) b') → ∃ s' : (Nat → Nat → Int32) × Int32 × Int32 × Int32, f10_round_b118 g (nI p) (nI k) (nI w) Kn B1 (nI many1) (nI b') (nI h) (nI (ln1 h / 16)) (nI (ln1 h % 16)) = Kn s'.1 s'.2.1 s'.2.2.1 s'.2.2.2 ∧ ∃ B1 many1 d1 ln1 b, s' = (B1, nI many1, nI b, nI (h + 1)) ∧ RQ nx p k (h + 1) 0 many1 d1 ln1 ∧ QST many1 d1 ln1 B1 B0 ∧ b < 65536 ∧ rch nx p k b p ∧ ∀ i, i < h + 1 → ln1 i % 16 = p → ¬ BTT v (ln1 i / 16) b := by
    intro b' h1 h2 h3
    unfold f10_round_b118
    rw [if_neg (nI_in (show h < 524288 by omega) (by decide)), gx_nI (by omega), hQ1.2.1 h hm', if_neg (nI_in clt (by decide)), gx_nI (by omega), hQ1.1 _ clt]
    by_cases hk : d1 (ln1 h) ≤ k
    · rw [if_pos (by rw [leI (by omega) (by omega)]; exact hk)]
      obtain ⟨B', many', d', ln', e1, e2, e3, e4⟩ := near140_c (g := g) (w := w) (b := b') Kn hp hk8 hn H1 hm' hk hQ1
      refine ⟨(B', nI many', nI b', nI (h + 1)), e1, B', many', d', ln', b', rfl, e2, e3, h1, h2, fun i hi => ?_⟩
      rw [e4 i (by omega)]
      exact h3 i hi
    · rw [if_neg (by rw [leI (by omega) (by omega)]; exact hk), nI_s]
      exact ⟨(B1, nI many1, nI b', nI (h + 1)), rfl, B1, many1, d1, ln1, b', rfl, H1.next hm' (Or.inr hk), hQ1, h1, h2, h3⟩
  rw [if_neg (by rw [leI (by omega) (by omega)]; omega), if_neg (nI_in (show h < 524288 by omega) (by decide)), if_neg (nI_in (show h < 524288 by omega) (by decide)), gx_nI (by omega), hQ1.2.1 h hm', show (16 : Int32) = nI 16 from rfl, irmI (by omega) (by decide) (by decide), divI (by omega) (by decide) (by decide)]
  by_cases e : ln1 h % 16 = p
  · rw [if_pos (by rw [e])]
    have hr : rch nx p k (ln1 h / 16) p := by
      rw [e] at c3
      exact rch_mono (by omega) c3
    rcases better_c (g := g) (B := B1) (S := ln1 h / 16) (b := b) (fun p hp => by rw [hQ1.2.2 0 (by decide) (by decide)]; exact hX p hp) hv ok.1 b1 with ⟨bt, be⟩ | ⟨bt, be⟩
    · rw [be, Option.bind_some, if_neg n10]
      refine go _ ok.1 hr (fun i hi hq => ?_)
      by_cases u : i = h
      · subst u; unfold BTT; omega
      · have := b3 i (by omega) hq
        unfold BTT at this bt ⊢
        omega
    · rw [be, Option.bind_some, if_pos rfl]
      refine go b b1 b2 (fun i hi hq => ?_)
      by_cases u : i = h
      · subst u; exact bt
      · exact b3 i (by omega) hq
  · rw [if_neg (by rw [eqI (by omega) (by omega)]; exact e)]
    refine go b b1 b2 (fun i hi hq => ?_)
    by_cases u : i = h
    · subst u; exact absurd hq e
    · exact b3 i (by omega) hq
