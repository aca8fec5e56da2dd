theorem lt32 {k : Nat} (h : k < 2 ^ 5) : k = 0 ∨ k = 1 ∨ k = 2 ∨ k = 3 ∨ k = 4 ∨ k = 5 ∨ k = 6 ∨ k = 7 ∨ k = 8 ∨ k = 9 ∨ k = 10 ∨ k = 11 ∨ k = 12 ∨ k = 13 ∨ k = 14 ∨ k = 15 ∨ k = 16 ∨ k = 17 ∨ k = 18 ∨ k = 19 ∨ k = 20 ∨ k = 21 ∨ k = 22 ∨ k = 23 ∨ k = 24 ∨ k = 25 ∨ k = 26 ∨ k = 27 ∨ k = 28 ∨ k = 29 ∨ k = 30 ∨ k = 31 := by omega
theorem vin_add {j k L : Nat} {K : Int32} (h : j + k < L) (hL : L ≤ 3072) (hK : K = nI k) : vp_in (nI j + K) L := by
  rw [hK, nI_add]
  exact vp_in_nI h (by omega)
theorem le_of_cc {j L : Nat} (hL : L ≤ 3072) (h2 : j ≤ L + 6) (cc : ¬ Int32.ofNat L - 6 < nI j) : j + 6 ≤ L := by
  rcases Nat.lt_or_ge L (j + 6) with h | h
  · refine absurd ?_ cc
    rw [Int32.lt_iff_toInt_lt]
    have e1 : (Int32.ofNat L - 6).toInt = (L : Int) - 6 := pk_sub_toInt (a := L) (b := 6) (by omega) (by omega)
    rw [e1, nI_toInt (by omega)]
    omega
  · exact h
theorem cset_self {α : Type} (σ : Nat → α) (i : Nat) : cset σ i (σ i) = σ := by
  funext j
  unfold cset
  split
  · next h => rw [h]
  · rfl
theorem round_bad {f1 : Nat → Int32} {A1 : Nat → Nat → Int32} {f0 f2 f3 : Nat → Int32} {A0 A2 A3 : Nat → Nat → Int32} {p1 p2 p3 : Int32} {r : Int32 × (Nat → Nat → Int32) × (Nat → Int32)} (hv : f1_isTold f1 A1 p1 = 0 ∨ f9_within p2 1 8 = 0 ∨ f9_within p3 0 1 = 0) (h : f9_round f0 A0 f1 A1 f2 A2 f3 A3 p1 p2 p3 = some r) : r = (-1, A3, f3) := by
  unfold f9_round at h
  by_cases h1 : f1_isTold f1 A1 p1 = 0
  · rw [if_pos h1] at h; exact (Option.some.inj h).symm
  · rw [if_neg h1] at h
    by_cases h2 : f9_within p2 1 8 = 0
    · rw [if_pos h2] at h; exact (Option.some.inj h).symm
    · rw [if_neg h2] at h
      by_cases h3 : f9_within p3 0 1 = 0
      · rw [if_pos h3] at h; exact (Option.some.inj h).symm
      · exact absurd hv (fun hv => hv.elim h1 (fun hv => hv.elim h2 h3))
section LL
variable {p : Program} {e : Env} {s : State} {m : MethodId} {below : List Frame} {meth : Method} {c : Code} {G : Gp} {b L : Nat} {xs : Nat → Int32} {cells slots : Nat} {Q : State → Prop}
set_option maxRecDepth 100000 in
set_option maxHeartbeats 4000000 in
theorem lc0_roundA (C0 : Cx code 4 ret RL p s m #[Value.ref b] meth c G (fun q : Nat => s.heap.size ≤ q)) (hX : va_X b L xs s s.heap) (hbl : b < s.heap.size) (hcr : cells ≤ room_1.cells ∧ slots ≤ room_1.slots) {l : Launch} {h : Nat} {u : Nat → Nat → Nat} {g : Nat → Nat} {aB : Nat → Nat → Nat} {aW : Nat → Nat} {hM : Nat} {aM : Nat → Nat} {σf : Nat → Nat → Int32} {σA : Nat → Nat → Nat → Int32} {fW : Nat → Nat → Int32} {AW : Nat → Nat → Nat → Int32} {μf : Nat → Int32} {μA : Nat → Nat → Int32} {i : Int32} {x1 : Int32} (hi1 : vp_in (i + 1) L) (ex1 : x1 = xs (i + 1).toNatClampNeg) {x2 : Int32} (hi2 : vp_in (i + 2) L) (ex2 : x2 = xs (i + 2).toNatClampNeg) {x3 : Int32} (hi3 : vp_in (i + 3) L) (ex3 : x3 = xs (i + 3).toNatClampNeg) (hv : f1_isTold (σf 2) (σA 2) x1 = 0 ∨ f9_within x2 1 8 = 0 ∨ f9_within x3 0 1 = 0) {r' : Int32 × (Nat → Nat → Int32)} (hr' : f10_round μf μA x1 x2 x3 = some r') (he : (-1) = (r'.1)) (kk : ∀ (u : Nat → Nat → Nat) (g : Nat → Nat) (aB : Nat → Nat → Nat) (H : Heap) (locs : List Loc) (ls : Array Slot), WD G (fun q : Nat => s.heap.size ≤ q) (wX9 G h (u 0) none (σf 0) (σA 0) ++ (wX7 G (u 0 0) (u 1) (σf 1) (σA 1) ++ (wX1 G (u 0 1) (u 2) (σf 2) (σA 2) ++ (wX6 G (u 0 2) (u 3) (σf 3) (σA 3) ++ (wX6 G (u 0 3) (u 4) (σf 4) (σA 4) ++ (wX6 G (u 0 4) (u 5) (σf 5) (σA 5) ++ (wB G (u 0 5) g aB fW AW ++ (wX5 G (u 0 6) (u 6) (σf 6) (σA 6) ++ (wX3 G (u 0 7) (u 7) (σf 7) (σA 7) ++ (wX4 G (u 0 8) (u 8) (σf 8) (σA 8) ++ (wX0 G (u 0 10) (u 9) (σf 9) (σA 9) ++ (wX2 G (u 0 11) (u 10) (σf 10) (σA 10) ++ (wX2 G (u 0 12) (u 11) (σf 11) (σA 11) ++ (wX10 G hM aM μf (r'.2))))))))))))))) H → va_S (fun q : Nat => s.heap.size ≤ q) s.heap H locs → lv_has ls 4 [(0, .ref b), (1, .ref h), (2, .ref hM), (3, .int i)] → W p l e room_1 s m #[Value.ref b] below meth c H locs cells slots Q (F0 m 1152 ls [])) : ∀ (H : Heap) (locs : List Loc) (ls : Array Slot), WD G (fun q : Nat => s.heap.size ≤ q) (wX9 G h (u 0) none (σf 0) (σA 0) ++ (wX7 G (u 0 0) (u 1) (σf 1) (σA 1) ++ (wX1 G (u 0 1) (u 2) (σf 2) (σA 2) ++ (wX6 G (u 0 2) (u 3) (σf 3) (σA 3) ++ (wX6 G (u 0 3) (u 4) (σf 4) (σA 4) ++ (wX6 G (u 0 4) (u 5) (σf 5) (σA 5) ++ (wB G (u 0 5) g aB fW AW ++ (wX5 G (u 0 6) (u 6) (σf 6) (σA 6) ++ (wX3 G (u 0 7) (u 7) (σf 7) (σA 7) ++ (wX4 G (u 0 8) (u 8) (σf 8) (σA 8) ++ (wX0 G (u 0 10) (u 9) (σf 9) (σA 9) ++ (wX2 G (u 0 11) (u 10) (σf 10) (σA 10) ++ (wX2 G (u 0 12) (u 11) (σf 11) (σA 11) ++ (wX10 G hM aM μf μA)))))))))))))) H → va_S (fun q : Nat => s.heap.size ≤ q) s.heap H locs → lv_has ls 4 [(0, .ref b), (1, .ref h), (2, .ref hM), (3, .int i)] → W p l e room_1 s m #[Value.ref b] below meth c H locs cells slots Q (F0 m 707 ls []) := by
  intro H locs ls hPD hS hl
  obtain ⟨hx, hb, hml, hown, hts⟩ := C0.1
  have hbA : ¬ (fun q : Nat => s.heap.size ≤ q) b := Nat.not_le.mpr hbl
  refine lv_aload_n hx hb dL_law_707 rfl (lv_at hl 1 rfl) ?_
  refine lv_aload_n hx hb dL_law_708 rfl (lv_at hl 0 rfl) ?_
  refine lv_iload_n hx hb dL_law_709 rfl (lv_at hl 3 rfl) ?_
  refine lv_iconst (v := 1) hx hb dL_law_710 (by decide) ?_
  refine lv_iadd hx hb dL_law_711 ?_
  refine va_sld hx hb hX hbl hbA hS hi1 dL_law_712 ?_
  refine lv_nm ex1 ?_
  refine lv_aload_n hx hb dL_law_713 rfl (lv_at hl 0 rfl) ?_
  refine lv_iload_n hx hb dL_law_714 rfl (lv_at hl 3 rfl) ?_
  refine lv_iconst (v := 2) hx hb dL_law_715 (by decide) ?_
  refine lv_iadd hx hb dL_law_716 ?_
  refine va_sld hx hb hX hbl hbA hS hi2 dL_law_717 ?_
  refine lv_nm ex2 ?_
  refine lv_aload_n hx hb dL_law_718 rfl (lv_at hl 0 rfl) ?_
  refine lv_iload_n hx hb dL_law_719 rfl (lv_at hl 3 rfl) ?_
  refine lv_iconst (v := 3) hx hb dL_law_720 (by decide) ?_
  refine lv_iadd hx hb dL_law_721 ?_
  refine va_sld hx hb hX hbl hbA hS hi3 dL_law_722 ?_
  refine lv_nm ex3 ?_
  refine kVIg (As := [.int x1, .int x2, .int x3]) (rest := []) C0 (kt_X9_roundN0 l G h (u 0) (u 2) (u 3) (σf 0) (σA 0) (σf 2) (σA 2) (σf 3) (σA 3) x1 x2 x3 hv) gi_V_L_88_X9_round (n := 3) rfl (by decide +kernel) rfl ⟨rfl, rfl, Nat.le_of_ble_eq_true rfl, Nat.le_of_ble_eq_true rfl⟩ hcr hPD hS 0 9 rfl rfl rfl [0, 1, 4, 5, 6, 7, 8, 9, 10, 11, 12, 13] [2, 3, 14, 15, 16, 17, 18, 19, 20, 21, 22, 23, 24, 25, 26, 27, 28, 29, 30, 31, 32, 33, 34, 35, 36, 37, 38, 39, 40, 41, 42, 43, 44, 45, 46, 47, 48, 49, 50, 51, 52, 53, 54, 55, 56, 57, 58, 59, 60, 61, 62, 63, 64, 65, 66, 67, 68, 69, 70, 71, 72, 73, 74, 75, 76, 77, 78, 79, 80, 81, 82, 83, 84, 85, 86, 87, 88, 89, 90, 91, 92, 93, 94, 95, 96, 97, 98, 99, 100, 101, 102, 103] [92, 93, 0, 1, 94, 95, 96, 97, 98, 99, 100, 101, 102, 103, 2, 3, 4, 5, 6, 7, 8, 9, 10, 11, 12, 13, 14, 15, 16, 17, 18, 19, 20, 21, 22, 23, 24, 25, 26, 27, 28, 29, 30, 31, 32, 33, 34, 35, 36, 37, 38, 39, 40, 41, 42, 43, 44, 45, 46, 47, 48, 49, 50, 51, 52, 53, 54, 55, 56, 57, 58, 59, 60, 61, 62, 63, 64, 65, 66, 67, 68, 69, 70, 71, 72, 73, 74, 75, 76, 77, 78, 79, 80, 81, 82, 83, 84, 85, 86, 87, 88, 89, 90, 91] (wr := (wX7 G (u 0 0) (u 1) (σf 1) (σA 1) ++ (wX6 G (u 0 3) (u 4) (σf 4) (σA 4) ++ (wX6 G (u 0 4) (u 5) (σf 5) (σA 5) ++ (wB G (u 0 5) g aB fW AW ++ (wX5 G (u 0 6) (u 6) (σf 6) (σA 6) ++ (wX3 G (u 0 7) (u 7) (σf 7) (σA 7) ++ (wX4 G (u 0 8) (u 8) (σf 8) (σA 8) ++ (wX0 G (u 0 10) (u 9) (σf 9) (σA 9) ++ (wX2 G (u 0 11) (u 10) (σf 10) (σA 10) ++ (wX2 G (u 0 12) (u 11) (σf 11) (σA 11) ++ (wX10 G hM aM μf μA)))))))))))) (wN := (wX9 G h (u 0) none (σf 0) (σA 0) ++ (wX7 G (u 0 0) (u 1) (σf 1) (σA 1) ++ (wX1 G (u 0 1) (u 2) (σf 2) (σA 2) ++ (wX6 G (u 0 2) (u 3) (σf 3) (σA 3) ++ (wX6 G (u 0 3) (u 4) (σf 4) (σA 4) ++ (wX6 G (u 0 4) (u 5) (σf 5) (σA 5) ++ (wB G (u 0 5) g aB fW AW ++ (wX5 G (u 0 6) (u 6) (σf 6) (σA 6) ++ (wX3 G (u 0 7) (u 7) (σf 7) (σA 7) ++ (wX4 G (u 0 8) (u 8) (σf 8) (σA 8) ++ (wX0 G (u 0 10) (u 9) (σf 9) (σA 9) ++ (wX2 G (u 0 11) (u 10) (σf 10) (σA 10) ++ (wX2 G (u 0 12) (u 11) (σf 11) (σA 11) ++ (wX10 G hM aM μf μA))))))))))))))) rfl rfl rfl rfl rfl hl.1 (Nat.le_of_ble_eq_true rfl) dL_law_723 (fun H locs hPD hS => ?_)
  refine lv_aload_n hx hb dL_law_726 rfl (lv_at hl 2 rfl) ?_
  refine lv_aload_n hx hb dL_law_727 rfl (lv_at hl 0 rfl) ?_
  refine lv_iload_n hx hb dL_law_728 rfl (lv_at hl 3 rfl) ?_
  refine lv_iconst (v := 1) hx hb dL_law_729 (by decide) ?_
  refine lv_iadd hx hb dL_law_730 ?_
  refine va_sld hx hb hX hbl hbA hS hi1 dL_law_731 ?_
  refine lv_nm ex1 ?_
  refine lv_aload_n hx hb dL_law_732 rfl (lv_at hl 0 rfl) ?_
  refine lv_iload_n hx hb dL_law_733 rfl (lv_at hl 3 rfl) ?_
  refine lv_iconst (v := 2) hx hb dL_law_734 (by decide) ?_
  refine lv_iadd hx hb dL_law_735 ?_
  refine va_sld hx hb hX hbl hbA hS hi2 dL_law_736 ?_
  refine lv_nm ex2 ?_
  refine lv_aload_n hx hb dL_law_737 rfl (lv_at hl 0 rfl) ?_
  refine lv_iload_n hx hb dL_law_738 rfl (lv_at hl 3 rfl) ?_
  refine lv_iconst (v := 3) hx hb dL_law_739 (by decide) ?_
  refine lv_iadd hx hb dL_law_740 ?_
  refine va_sld hx hb hX hbl hbA hS hi3 dL_law_741 ?_
  refine lv_nm ex3 ?_
  refine kVIg (As := [.int x1, .int x2, .int x3]) (rest := [.int (-1)]) C0 (kt_X10_round l G hM aM μf μA x1 x2 x3 hr') gi_V_L_91_X10_round (n := 3) rfl (by decide +kernel) rfl ⟨rfl, rfl, Nat.le_of_ble_eq_true rfl, Nat.le_of_ble_eq_true rfl⟩ hcr hPD hS 70 10 rfl rfl rfl [70, 71, 72, 73, 74, 75, 76, 77, 78, 79, 80, 81, 82, 83, 84, 85, 86, 87, 88, 89, 90, 91, 92, 93, 94, 95, 96, 97, 98, 99, 100, 101, 102, 103] [0, 1, 2, 3, 4, 5, 6, 7, 8, 9, 10, 11, 12, 13, 14, 15, 16, 17, 18, 19, 20, 21, 22, 23, 24, 25, 26, 27, 28, 29, 30, 31, 32, 33, 34, 35, 36, 37, 38, 39, 40, 41, 42, 43, 44, 45, 46, 47, 48, 49, 50, 51, 52, 53, 54, 55, 56, 57, 58, 59, 60, 61, 62, 63, 64, 65, 66, 67, 68, 69] [0, 1, 2, 3, 4, 5, 6, 7, 8, 9, 10, 11, 12, 13, 14, 15, 16, 17, 18, 19, 20, 21, 22, 23, 24, 25, 26, 27, 28, 29, 30, 31, 32, 33, 34, 35, 36, 37, 38, 39, 40, 41, 42, 43, 44, 45, 46, 47, 48, 49, 50, 51, 52, 53, 54, 55, 56, 57, 58, 59, 60, 61, 62, 63, 64, 65, 66, 67, 68, 69, 70, 71, 72, 73, 74, 75, 76, 77, 78, 79, 80, 81, 82, 83, 84, 85, 86, 87, 88, 89, 90, 91, 92, 93, 94, 95, 96, 97, 98, 99, 100, 101, 102, 103] (wr := (wX9 G h (u 0) none (σf 0) (σA 0) ++ (wX7 G (u 0 0) (u 1) (σf 1) (σA 1) ++ (wX1 G (u 0 1) (u 2) (σf 2) (σA 2) ++ (wX6 G (u 0 2) (u 3) (σf 3) (σA 3) ++ (wX6 G (u 0 3) (u 4) (σf 4) (σA 4) ++ (wX6 G (u 0 4) (u 5) (σf 5) (σA 5) ++ (wB G (u 0 5) g aB fW AW ++ (wX5 G (u 0 6) (u 6) (σf 6) (σA 6) ++ (wX3 G (u 0 7) (u 7) (σf 7) (σA 7) ++ (wX4 G (u 0 8) (u 8) (σf 8) (σA 8) ++ (wX0 G (u 0 10) (u 9) (σf 9) (σA 9) ++ (wX2 G (u 0 11) (u 10) (σf 10) (σA 10) ++ (wX2 G (u 0 12) (u 11) (σf 11) (σA 11))))))))))))))) (wN := (wX9 G h (u 0) none (σf 0) (σA 0) ++ (wX7 G (u 0 0) (u 1) (σf 1) (σA 1) ++ (wX1 G (u 0 1) (u 2) (σf 2) (σA 2) ++ (wX6 G (u 0 2) (u 3) (σf 3) (σA 3) ++ (wX6 G (u 0 3) (u 4) (σf 4) (σA 4) ++ (wX6 G (u 0 4) (u 5) (σf 5) (σA 5) ++ (wB G (u 0 5) g aB fW AW ++ (wX5 G (u 0 6) (u 6) (σf 6) (σA 6) ++ (wX3 G (u 0 7) (u 7) (σf 7) (σA 7) ++ (wX4 G (u 0 8) (u 8) (σf 8) (σA 8) ++ (wX0 G (u 0 10) (u 9) (σf 9) (σA 9) ++ (wX2 G (u 0 11) (u 10) (σf 10) (σA 10) ++ (wX2 G (u 0 12) (u 11) (σf 11) (σA 11) ++ (wX10 G hM aM μf (r'.2)))))))))))))))) rfl rfl rfl rfl rfl hl.1 (Nat.le_of_ble_eq_true rfl) dL_law_742 (fun H locs hPD hS => ?_)
  refine lv_icmp_eq (tgt := 1152) hx hb dL_law_745 (by decide) (fun cc1 => ?_) (fun cc1 => absurd he cc1)
  exact kk u g aB H locs ls hPD hS hl
end LL
