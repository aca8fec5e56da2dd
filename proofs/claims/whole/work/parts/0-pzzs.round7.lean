theorem ok_round : OK_round INV := by
  rintro σf σA fW AW μf μA x1 x2 x3 hI
  have hI0 := hI
  obtain ⟨T, nx, hB, hS, hT, hW, hK, hL, hX⟩ := hI
  have hB0 := hB
  obtain ⟨b1, b2, b3, b4, b5, b6, b7⟩ := hB
  have hS0 := hS
  have hv : ∃ v : Nat → Nat, ∀ p, p < 16 → v p ≤ 99 ∧ σA 3 0 p = nI (v p) ∧ μA 0 p = nI (v p) := by
    refine ⟨fun p => if q : p < 16 then (hS.1 p q).1.choose else 0, fun p hp => ?_⟩
    show (if q : p < 16 then (hS.1 p q).1.choose else 0) ≤ 99 ∧ σA 3 0 p = nI (if q : p < 16 then (hS.1 p q).1.choose else 0) ∧ μA 0 p = nI (if q : p < 16 then (hS.1 p q).1.choose else 0)
    rw [dif_pos hp]
    exact (hS.1 p hp).1.choose_spec
  obtain ⟨v, hv⟩ := hv
  have none : ∃ (r : Int32 × (Nat → Nat → Int32) × (Nat → Int32)) (r' : Int32 × (Nat → Nat → Int32)), some ((-1 : Int32), σA 12, σf 12) = some r ∧ some ((-1 : Int32), μA) = some r' ∧ r.1 = (r'.1) ∧ INV (cset σf 12 (r.2.2)) (cset σA 12 (r.2.1)) fW AW μf (r'.2) := ⟨_, _, rfl, rfl, rfl, by rw [cset_id, cset_id]; exact hI0⟩
  unfold f9_round f10_round
  rcases told_c b1 b2 b3 x1 (AB := σA 2) (A := μA) with ⟨h1, h2⟩ | ⟨p, hp, rfl, hTp, u1, u2⟩
  · rw [if_pos h1, if_pos h2]; exact none
  rw [u1, if_neg n10, u2, if_neg n10, in_eq]
  rcases within_c x2 (A := 1) (B := 8) (a := 1) (b := 8) rfl rfl (by decide) (by decide) with ⟨h, _⟩ | ⟨h, k1, hk1, hk8, rfl⟩
  · rw [if_pos h, if_pos h]; exact none
  rw [h, if_neg n10, if_neg n10]
  rcases within_c x3 (A := 0) (B := 1) (a := 0) (b := 1) rfl rfl (by decide) (by decide) with ⟨h', _⟩ | ⟨h', w, _, hw, rfl⟩
  · rw [if_pos h', if_pos h']; exact none
  rw [h', if_neg n10, if_neg n10]
  obtain ⟨k, rfl⟩ : ∃ k, k1 = k + 1 := ⟨k1 - 1, by omega⟩
  have hn1 : ∀ p, p < 16 → σA 2 1 p = nI (nx p) ∧ nx p < 65536 := fun p hp => ⟨(b4 p hp).1, (b4 p hp).2.2⟩
  have hn2 : ∀ p, p < 16 → μA 3 p = nI (nx p) ∧ nx p < 65536 := fun p hp => ⟨(b4 p hp).2.1, (b4 p hp).2.2⟩
  obtain ⟨b, A', f', e1, s1, s2, s3, s4⟩ := best_c (f := σf 12) (f1 := σf 2) hp (show k < 8 by omega) b5 hn1 (fun p hp => (hv p hp).2.1) (fun p hp => (hv p hp).1) hX.1
  have clt : 16 * 2 ^ p + p < 1048576 := by
    have := pow16 hp
    omega
  simp only [letv]
  rw [shl1 (by omega), show (16 : Int32) = nI 16 from rfl, mulI, addI, if_neg (nI_in clt (by decide)), ux_nI (by omega), show (0 : Int32) = nI 0 from rfl, ux_nI (by omega), nar1]
  generalize hB1 : updA (updA μA 44 (upd (μA 44) 0 (nI (16 * 2 ^ p + p)))) 43 (upd (updA μA 44 (upd (μA 44) 0 (nI (16 * 2 ^ p + p))) 43) (16 * 2 ^ p + p) 1) = B1
  have hQ : QST 1 (fun c => if c = 16 * 2 ^ p + p then 1 else 0) (fun _ => 16 * 2 ^ p + p) B1 μA := by
    refine ⟨fun c hc => ?_, fun i hi => ?_, fun j h1 h2 => ?_⟩
    · rw [← hB1, updA_s, updA_n (show (43 : Nat) ≠ 44 by decide)]
      show _ = nI (if c = 16 * 2 ^ p + p then 1 else 0)
      by_cases e : c = 16 * 2 ^ p + p
      · subst e; rw [upd_s, if_pos rfl]; rfl
      · rw [upd_n e, if_neg e]; exact hX.2 c hc
    · rw [← hB1, updA_n (show (44 : Nat) ≠ 43 by decide), updA_s]
      have : i = 0 := by omega
      subst this
      exact upd_s
    · rw [← hB1, updA_n h1, updA_n h2]
  obtain ⟨b', B', r1, t1, t2, t3, t4, t5⟩ := round10_c (g := μf) hp hk8 hw hn2 (fun p hp => (hv p hp).2.2) (fun p hp => (hv p hp).1) (RQ.start (nx := nx) (k := k + 1) hp) hQ
  have eb : b = b' := BTT_total (v := v) (t3 b s2) (s3 b' t2)
  subst eb
  have inv : INV (cset σf 12 f') (cset σA 12 A') fW AW μf B' := by
    refine ⟨T, nx, ?_, ?_, ?_, ?_, ?_, ?_, ?_⟩
    · show RB T nx (σf 2 0) (μf 6) (σA 2 1) (B' 3)
      rw [t5 3 (by decide) (by decide)]; exact hB0
    · show RS T (σf 3) (σA 3) (B' 0)
      rw [t5 0 (by decide) (by decide)]; exact hS0
    · show RT (σf 1 1) (μf 8) (σA 1 0) (B' 7)
      rw [t5 7 (by decide) (by decide)]; exact hT
    · show RW fW AW (B' 4) (B' 5)
      rw [t5 4 (by decide) (by decide), t5 5 (by decide) (by decide)]; exact hW
    · show RK T (σf 0 14) (μf 51) (σf 5) (σA 5) (B' 2)
      rw [t5 2 (by decide) (by decide)]; exact hK
    · exact LAWR.congr (fL := σf 10) (AL := σA 10) (g := μf) (B := μA) hL rfl (fun _ _ => rfl) rfl (fun j h1 h2 => t5 j (by omega) (by omega))
    · show RX (A' 0) (B' 43)
      exact ⟨s4, t4⟩
  unfold f9_round_b50
  rw [e1, Option.bind_some]
  by_cases e : w = 0
  · subst e
    rw [if_pos rfl] at r1
    rw [if_pos (show nI 0 = (0 : Int32) from rfl), show (nI b, A', f').1 = nI b from rfl, sum9 (v := v) (fun p hp => (hv p hp).2.1) s1, Option.bind_some]
    exact ⟨_, _, rfl, r1, rfl, inv⟩
  · rw [if_neg e] at r1
    rw [if_neg (show ¬ nI w = (0 : Int32) by rw [show (0 : Int32) = nI 0 from rfl, eqI (by omega) (by omega)]; exact e)]
    exact ⟨_, _, rfl, r1, rfl, inv⟩
