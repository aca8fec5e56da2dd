theorem letter8 (x : Int32) : f2_letterOf x = -1 ∨ ∃ v w, v < 8 ∧ w < 1000 ∧ x = nI w ∧ f2_letterOf x = nI v := by
  by_cases h1 : x = 99
  · subst h1; exact Or.inr ⟨3, 99, by decide, by decide, rfl, rfl⟩
  by_cases h2 : x = 100
  · subst h2; exact Or.inr ⟨7, 100, by decide, by decide, rfl, rfl⟩
  by_cases h3 : x = 103
  · subst h3; exact Or.inr ⟨2, 103, by decide, by decide, rfl, rfl⟩
  by_cases h4 : x = 104
  · subst h4; exact Or.inr ⟨6, 104, by decide, by decide, rfl, rfl⟩
  by_cases h5 : x = 108
  · subst h5; exact Or.inr ⟨5, 108, by decide, by decide, rfl, rfl⟩
  by_cases h6 : x = 110
  · subst h6; exact Or.inr ⟨4, 110, by decide, by decide, rfl, rfl⟩
  by_cases h7 : x = 112
  · subst h7; exact Or.inr ⟨0, 112, by decide, by decide, rfl, rfl⟩
  by_cases h8 : x = 116
  · subst h8; exact Or.inr ⟨1, 116, by decide, by decide, rfl, rfl⟩
  left
  unfold f2_letterOf
  rw [if_neg h1, if_neg h2, if_neg h3, if_neg h4, if_neg h5, if_neg h6, if_neg h7, if_neg h8]
/-- a number or a letter is noted -/
theorem leaf_c {n m s p pos bs k o v pos' : Nat} {b op vl c lo : Nat → Nat} {A B B' : Nat → Nat → Int32} {f g g' fT' : Nat → Int32} (hn : n ≤ 240) (hC : CUR n pos' fT' g') (hpp : pos < pos') (hk : 1000 < k + pos) (hLo : LOR m op vl A f) (hM : MOR (m + 1) (pt op m o) (pt vl m v) B' g') (hS : STK s c lo B g) (h13 : g 13 = nI p) (hm : m ≤ pos) (h19 : B' 19 = B 19) (h15 : g' 15 = g 15) (g13 : g' 13 = g 13) (hlf : LFR B' B g' g) (ho : o = 0 ∨ o = 1 ∧ v < 8) (hv : v < 1048576) :
    ∃ A' f', f2_order f A (nI (COP o)) (nI v) = some (nI m, A', f') ∧ ∀ P Q, P = some (A', f', fT') → Q = f10_readsSum_l14 k B' g' (nI bs) → GOT n b 2 bs m s p pos op vl c lo A B f g P Q := by
  have hpn := hC.2.2.2.2.2
  have old : ∀ j, j < m → pt op m o j = op j ∧ pt vl m v j = vl j := fun j hj => ⟨pt_n (by omega), pt_n (by omega)⟩
  obtain ⟨A3, f3, e1, e2, e3⟩ := order_c (o := o) (v := v) (hLo.congr old) (by omega) pt_s pt_s
  refine ⟨A3, f3, e1, fun P Q hP hQ => Or.inr ⟨A3, f3, fT', B', g', pos', m + 1, 0, k, pt op m o, pt vl m v, c, lo, hP, hQ, ⟨hC, hpp, by omega, e2, hM, hS.congr (fun _ _ => ⟨rfl, rfl⟩) h19 h15, ⟨fun _ => rfl, by omega, by omega, fun i hi => absurd hi (by omega)⟩, old, fun _ _ => ⟨rfl, rfl⟩, g13.trans h13, by omega, ⟨1, Or.inl ⟨rfl, ?_⟩⟩, fun j a c => ?_, hlf, e3⟩, fun h => absurd h (by decide), fun h => absurd h (by decide)⟩⟩
  · rw [pt_s, pt_s]; exact ho
  · have : j = m := by omega
    subst this
    rw [pt_s, pt_s]; exact ⟨by omega, hv⟩
theorem factor_c {n d bs p : Nat} {b : Nat → Nat} {AT : Nat → Nat → Int32} (hn : n ≤ 240) (hp : p ≤ 6) (ih : p < 6 → FAC n b AT 3 1 d bs (p + 1)) : FAC n b AT 5 2 (d + 1) bs p := by
  intro m s pos i k op vl c lo A B f fT g hX hC hLo hM hS h13 hm hs hbs _ hi hk
  show GOT n b 2 bs m s p pos op vl c lo A B f g (f2_factor (f2_anyOf_rec d) f A fT AT (nI p)) _
  have hpn := hC.2.2.2.2.2
  obtain ⟨i, rfl⟩ : ∃ j, i = j + 1 := ⟨i - 1, by omega⟩
  have eS : SF (nI bs) (i + 1) k B g = (f10_readsFactor_b0 (f10_readsFactor_l0 i) B g).bind fun q => if q.1 = 0 then some (0, q.2.1, q.2.2) else f10_readsSum_l14 k q.2.1 q.2.2 (nI bs) := rfl
  rw [eS]
  unfold f2_factor f10_readsFactor_b0
  rw [tlook_c hX hC, here_c hX hC, Option.bind_some]
  have flt : ∀ (kk : Int32), kk ≠ 0 → GOT n b 2 bs m s p pos op vl c lo A B f g (some (A, f, f7_fail fT AT kk)) ((((f10_wrongAt g B kk (g 9)).bind fun q => if ¬ (q.1 = 0 ∨ q.1 = 1) then none else some (q.1, B, q.2))).bind fun q => if q.1 = 0 then some (0, q.2.1, q.2.2) else f10_readsSum_l14 k q.2.1 q.2.2 (nI bs)) := by
    intro kk hkk
    obtain ⟨g', w1, w2, w3⟩ := FLT.mk (g := g) (B := B) (AT := AT) (k := kk) (p := g 9) hC.2.2.1 hC.1.2 hkk
    left
    rw [wrong_b (P := none) w1, Option.bind_some, if_pos rfl]
    refine ⟨A, f, f7_fail fT AT kk, B, g', rfl, rfl, ?_, fun _ _ _ => rfl, fun j a c d e f h => w3 j c⟩
    show FLT (f7_failAt fT AT kk (fT 3)) g'
    rw [hC.2.1, ← hC.2.2.2.2.1]; exact w2
  by_cases h91 : chr n b pos = 91
  · have hlt := chr_lt (c := 91) h91 (by omega)
    rw [if_pos h91, if_pos h91]
    unfold f2_opens f10_opens
    rw [h13]
    by_cases h6 : ¬ p < 6
    · rw [if_neg (show ¬ nI p < 6 by rw [show (6 : Int32) = nI 6 from rfl, ltI (by omega) (by omega)]; exact h6), if_pos (show nI p = 6 by rw [show p = 6 by omega]; rfl)]
      simp only [letv, Option.bind_some]
      rw [if_pos trivial]
      obtain ⟨g', w1, w2, w3⟩ := FLT.mk (g := g) (B := B) (AT := AT) (k := 5) (p := g 9) hC.2.2.1 hC.1.2 (by decide)
      left
      rw [wrong_b (P := none) w1, Option.bind_some, if_pos rfl, Option.bind_some, if_pos rfl]
      refine ⟨A, f, f7_fail fT AT 5, B, g', rfl, rfl, ?_, fun _ _ _ => rfl, fun j a c d e f h => w3 j c⟩
      show FLT (f7_failAt fT AT 5 (fT 3)) g'
      rw [hC.2.1, ← hC.2.2.2.2.1]; exact w2
    replace h6 : p < 6 := Classical.not_not.mp h6
    rw [if_pos (show nI p < 6 by rw [show (6 : Int32) = nI 6 from rfl, ltI (by omega) (by omega)]; exact h6), if_neg (show ¬ nI p = 6 by rw [show (6 : Int32) = nI 6 from rfl, eqI (by omega) (by omega)]; omega)]
    simp only [letv, Option.bind_some]
    rw [if_neg n10, upd_n (show (15 : Nat) ≠ 13 by decide), hS.1, if_neg (nI_in (show s < 260 by omega) (by decide)), ux_nI (by omega), Option.bind_some, if_neg n10, nI_s, nI_s, upd_n (show (9 : Nat) ≠ 15 by decide), upd_n (show (9 : Nat) ≠ 13 by decide), hC.2.2.2.2.1, nI_s, show (1048576 : Int32) * 14 = nI (1048576 * 14) from rfl]
    generalize hB2 : updA B 19 (upd (B 19) s (nI (1048576 * 14))) = B2
    generalize hg2 : upd (upd (upd g 13 (nI (p + 1))) 15 (nI (s + 1))) 9 (nI (pos + 1)) = g2
    have eS2 : ((f10_readsFactor_l0 i B2 g2).bind fun q => if q.1 = 0 then some (0, q.2.1, q.2.2) else f10_readsSum_l14 k q.2.1 q.2.2 (nI bs)) = SF (nI bs) i k B2 g2 := rfl
    rw [eS2]
    have hlf : LFR B2 B g2 g := by
      rw [← hB2, ← hg2]
      exact ⟨fun j a c => updA_n c, fun j a1 a2 a3 a4 a5 a6 => by rw [upd_n a1, upd_n a6, upd_n a4]⟩
    have hX2 : TXT n b AT B2 := hX.congr (hlf.1 7 (by decide) (by decide))
    have hC2 : CUR n (pos + 1) (f7_step fT AT) g2 := (hC.step hlt).congr (by rw [← hg2, upd_s, upd_s, hC.2.2.2.2.1, nI_s]) (by rw [← hg2, upd_n (by decide), upd_n (by decide), upd_n (by decide), upd_n (by decide)])
    have hS2 : STK (s + 1) (pt c s 14) (pt lo s 0) B2 g2 := by
      rw [← hB2, ← hg2]
      refine ⟨(upd_n (by decide)).trans upd_s, fun j hj => ?_⟩
      rw [updA_s]
      by_cases e : j = s
      · subst e; rw [upd_s, pt_s, pt_s]; exact ⟨rfl, by omega, by decide⟩
      · rw [upd_n e, pt_n e, pt_n e]; exact hS.2 j (by omega)
    have hM2 : MOR m op vl B2 g2 := hM.congr (fun _ _ => ⟨rfl, rfl⟩) (by rw [← hB2, updA_n (by decide)]) (by rw [← hg2, upd_n (by decide), upd_n (by decide), upd_n (by decide)])
    have h132 : g2 13 = nI (p + 1) := by rw [← hg2, upd_n (by decide), upd_n (by decide), upd_s]
    rcases ih h6 m (s + 1) (pos + 1) i k op vl (pt c s 14) (pt lo s 0) A B2 f (f7_step fT AT) g2 hX2 hC2 hLo hM2 hS2 h132 (by omega) (by omega) (by omega) (fun _ => Or.inr (by rw [Nat.add_sub_cancel, pt_s]; omega)) (by omega) (by omega) with ⟨A3, f3, fT3, B3, g3, z1, z2, z3, z4⟩ | ⟨A3, f3, fT3, B3, g3, pos3, mr3, q3, k3, op3, vl3, c3, lo3, z1, z2, z3, z5, z6⟩
    · left
      rw [z1, Option.bind_some, take_dead z3.1, Option.bind_some]
      exact ⟨_, _, _, B3, g3, rfl, z2, z3, z4.trans hlf⟩
    obtain ⟨hC3, hp3, hk3, hLo3, hM3, hS3, ⟨-, -, hq3, hP3⟩, hop3, hst3, h133, hmp3, hw3, hbd3, hlf3, hcf3⟩ := z3
    have hX3 : TXT n b AT B3 := hX2.congr (hlf3.1 7 (by decide) (by decide))
    have hpn3 := hC3.2.2.2.2.2
    have c14 : c3 s = 14 := by rw [(hst3 s (by omega)).1, pt_s]
    obtain ⟨k3, rfl⟩ : ∃ j, k3 = j + 1 := ⟨k3 - 1, by omega⟩
    have e14 : f10_readsSum_l14 (k3 + 1) B3 g3 (nI bs) = f10_readsSum_b14 (f10_readsSum_l14 k3) B3 g3 (nI bs) := rfl
    obtain ⟨y1, y2, y3⟩ := z5 (by decide)
    obtain ⟨y4, y5⟩ := z6 rfl
    rw [z1, Option.bind_some, z2, e14]
    unfold f10_readsSum_b14 f10_readsSum_b138
    rw [take_fine hC3.2.2.1, tlook_c hX3 hC3, here_c hX3 hC3, Option.bind_some, Option.bind_some, sign_n y4 y5 y1 y2 y3, if_pos rfl]
    rcases hasOpen_c (bs := bs) hS3 (by omega) (by omega) with ⟨-, ho⟩ | ⟨ho, -⟩
    · rw [ho, Option.bind_some, Option.bind_some, if_neg n10, if_neg n10]
      by_cases h93 : chr n b pos3 = 93
      · have hlt3 := chr_lt (c := 93) h93 (by omega)
        have hNF := NF_ge
        obtain ⟨B4, g4, r1, r2, r3, r4, r5⟩ := close_c (L := 1) (s := s + 1) (op := op3) (vl := vl3) (c := c3) (lo := lo3) (by decide) (by omega) (Or.inr (by rw [Nat.add_sub_cancel, c14]; omega)) q3 mr3 NF B3 g3 (by omega) hq3 (by omega) hM3 hS3 hP3
        have r1' : f10_closesSums g3 B3 1 = some (B4, g4) := r1
        rw [if_pos h93, if_pos h93, r1', Option.bind_some]
        simp only [letv, Option.bind_some]
        right
        refine ⟨A3, f3, f7_step fT3 AT, B4, _, pos3 + 1, mr3 + q3, 0, k3, op3, vl3, c3, lo3, rfl, rfl, ⟨?_, by omega, by omega, hLo3, r2.congr (fun _ _ => ⟨rfl, rfl⟩) rfl ?_, ⟨?_, fun j hj => r3.2 j (by omega)⟩, ⟨fun _ => rfl, by omega, by omega, fun i hi => absurd hi (by omega)⟩, hop3, fun j hj => ?_, ?_, by omega, hw3, hbd3, ?_, hcf3⟩, fun h => absurd h (by decide), fun h => absurd h (by decide)⟩
        · refine (hC3.step hlt3).congr ?_ ?_
          · rw [upd_s, upd_s, upd_n (by decide), upd_n (by decide), r5 9 (by decide) (by decide)]
          · rw [upd_n (by decide), upd_n (by decide), upd_n (by decide), upd_n (by decide)]; exact r5 10 (by decide) (by decide)
        · rw [upd_n (by decide), upd_n (by decide), upd_n (by decide)]
        · rw [upd_n (by decide), upd_n (by decide), upd_s, r3.1]; exact subI (a := s + 1) (b := 1) (by omega)
        · rw [(hst3 j (by omega)).1, (hst3 j (by omega)).2, pt_n (by omega), pt_n (by omega)]; exact ⟨rfl, rfl⟩
        · rw [upd_n (by decide), upd_s, upd_n (by decide), r5 13 (by decide) (by decide), h133]; exact subI (a := p + 1) (b := 1) (by omega)
        · refine LFR.trans (B' := B3) (g' := g3) ⟨fun j a _ => r4 j a, fun j a1 a2 a3 a4 a5 a6 => ?_⟩ (hlf3.trans hlf)
          rw [upd_n a1, upd_n a4, upd_n a6]; exact r5 j a5 a6
      · rw [if_neg h93, if_neg h93]
        simp only [letv, Option.bind_some]
        obtain ⟨g', w1, w2, w3⟩ := FLT.mk (g := g3) (B := B3) (AT := AT) (k := 1) (p := g3 9) hC3.2.2.1 hC3.1.2 (by decide)
        left
        rw [wrong_b (P := none) w1]
        refine ⟨A3, f3, f7_fail fT3 AT 1, B3, g', rfl, rfl, ?_, LFR.trans (B' := B3) (g' := g3) ⟨fun _ _ _ => rfl, fun j a c d e f h => w3 j c⟩ (hlf3.trans hlf)⟩
        show FLT (f7_failAt fT3 AT 1 (fT3 3)) g'
        rw [hC3.2.1, ← hC3.2.2.2.2.1]; exact w2
    · exact absurd c14 (ho s (by omega) (by omega))
  rw [if_neg h91, if_neg h91]
  have old : ∀ o v j, j < m → pt op m o j = op j ∧ pt vl m v j = vl j := fun o v j hj => ⟨pt_n (by omega), pt_n (by omega)⟩
  rcases digit_c hX hC with ⟨d1, d2⟩ | ⟨dd, -, -, -, d1, d2⟩
  · rw [d1, d2, Option.bind_some, Option.bind_some, if_pos rfl, if_pos rfl, Option.bind_some, show f10_factOf (chr n b pos) = f2_letterOf (chr n b pos) from rfl]
    rcases letter8 (chr n b pos) with h | ⟨v, w, hv, hw, hx, h⟩
    · rw [h, if_pos rfl, if_pos rfl]
      exact flt 1 (by decide)
    · have hlt := chr_lt hx hw
      rw [h, if_neg (show ¬ nI v = -1 by rw [show (-1 : Int32) = -nI 1 from rfl, eq_neg (by omega) (by omega) (by omega)]; exact not_false), if_neg (show ¬ nI v = -1 by rw [show (-1 : Int32) = -nI 1 from rfl, eq_neg (by omega) (by omega) (by omega)]; exact not_false)]
      obtain ⟨e1, e2⟩ := notes_c (o := 1) (v := v) (hM.congr (old 1 v) rfl rfl) (by omega) pt_s pt_s
      have e1' : f10_notes g B 1 (nI v) = _ := e1
      rw [e1', Option.bind_some]
      simp only [letv, Option.bind_some]
      obtain ⟨A3, f3, y1, y2⟩ := leaf_c (o := 1) (v := v) (bs := bs) (k := k) (b := b) (pos := pos) (pos' := pos + 1) (fT' := f7_step fT AT) (g' := upd (upd g 14 (nI (m + 1))) 9 (upd g 14 (nI (m + 1)) 9 + 1)) hn ((hC.step hlt).congr (by rw [upd_s, upd_s, upd_n (by decide)]) (by rw [upd_n (by decide), upd_n (by decide), upd_n (by decide)])) (by omega) hk hLo (e2.congr (fun _ _ => ⟨rfl, rfl⟩) rfl (upd_n (by decide))) hS h13 hm (updA_n (by decide)) (by rw [upd_n (by decide), upd_n (by decide)]) (by rw [upd_n (by decide), upd_n (by decide)]) ⟨fun j a c => updA_n a, fun j a1 a2 a3 a4 a5 a6 => by rw [upd_n a1, upd_n a5]⟩ (Or.inr ⟨rfl, hv⟩) (by omega)
      have y1' : f2_order f A 2 (nI v) = some (nI m, A3, f3) := y1
      rw [y1', Option.bind_some]
      exact y2 _ _ rfl (by rw [if_neg n10])
  · rw [d1, d2, Option.bind_some, Option.bind_some, if_neg n10, if_neg n10]
    rcases number_c hX hC d2 with ⟨v, fT', g', w1, w2, w3, w4⟩ | ⟨v, dd, fT', g', q1, q2, w1, w2, w3, w4, w5⟩
    · rw [w1, w2, Option.bind_some, Option.bind_some, if_pos rfl, Option.bind_some, if_pos rfl]
      obtain ⟨A', f', e2, -⟩ := order_k f A 1 v
      left
      rw [e2, Option.bind_some]
      exact ⟨_, _, fT', B, g', rfl, rfl, w3, fun _ _ _ => rfl, fun j a c d e f h => w4 j a c d⟩
    · rw [w1, w2, Option.bind_some, Option.bind_some, if_neg n10]
      obtain ⟨e1, e2⟩ := notes_c (o := 0) (v := v) ((hM.congr (old 0 v) rfl (w5 14 (by decide) (by decide) (by decide)) : MOR m (pt op m 0) (pt vl m v) B g')) (by omega) pt_s pt_s
      have e1' : f10_notes g' B 0 (g' 12) = some (updA B 18 (upd (B 18) m (nI (1048576 * 0 + v))), upd g' 14 (nI (m + 1))) := by rw [w4]; exact e1
      rw [e1', Option.bind_some, Option.bind_some]
      obtain ⟨A3, f3, y1, y2⟩ := leaf_c (o := 0) (v := v) (bs := bs) (k := k) (b := b) (pos := pos) (pos' := pos + dd) (fT' := fT') (g' := upd g' 14 (nI (m + 1))) hn (w3.congr (upd_n (by decide)) (upd_n (by decide))) (by omega) hk hLo e2 hS h13 hm (updA_n (by decide)) (by rw [upd_n (by decide)]; exact w5 15 (by decide) (by decide) (by decide)) (by rw [upd_n (by decide)]; exact w5 13 (by decide) (by decide) (by decide)) ⟨fun j a c => updA_n a, fun j a1 a2 a3 a4 a5 a6 => by rw [upd_n a5]; exact w5 j a1 a2 a3⟩ (Or.inl rfl) (by omega)
      have y1' : f2_order f A 1 (nI v) = some (nI m, A3, f3) := y1
      rw [y1', Option.bind_some]
      exact y2 _ _ rfl (by rw [if_neg n10])
