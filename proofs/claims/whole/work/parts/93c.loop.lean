section LL
variable {p : Program} {l : Launch} {e : Env} {s : State} {m : MethodId} {below : List Frame} {meth : Method} {c : Code} {G : Gp} {b L : Nat} {xs : Nat → Int32} 
set_option maxRecDepth 100000 in
set_option maxHeartbeats 4000000 in
theorem law_loop {INV : (Nat → Nat → Int32) → (Nat → Nat → Nat → Int32) → (Nat → Nat → Int32) → (Nat → Nat → Nat → Int32) → (Nat → Int32) → (Nat → Nat → Int32) → Prop} (HK : OK_all INV) (C0 : Cx code 4 ret RL p s m #[Value.ref b] meth c G (fun q : Nat => s.heap.size ≤ q)) (hX : va_X b L xs s s.heap) (hbl : b < s.heap.size) (hL : L ≤ 3072) (hlk : meth.locks = false) : ∀ (n j : Nat), L + 12 ≤ j + 6 * n → j ≤ L + 6 → (∀ (h : Nat) (hM : Nat) (aM : Nat → Nat) (u : Nat → Nat → Nat) (g : Nat → Nat) (aB : Nat → Nat → Nat) (σf : Nat → Nat → Int32) (σA : Nat → Nat → Nat → Int32) (fW : Nat → Nat → Int32) (AW : Nat → Nat → Nat → Int32) (μf : Nat → Int32) (μA : Nat → Nat → Int32) (cells slots : Nat) (H : Heap) (locs : List Loc) (ls : Array Slot), cells + 3 ≤ 600000 → slots + 81923 ≤ 7302250 → (σf 12 = fun _ => 0) → (σA 12 = fun _ _ => 0) → INV σf σA fW AW μf μA → WD G (fun q : Nat => s.heap.size ≤ q) (wX9 G h (u 0) none (σf 0) (σA 0) ++ (wX7 G (u 0 0) (u 1) (σf 1) (σA 1) ++ (wX1 G (u 0 1) (u 2) (σf 2) (σA 2) ++ (wX6 G (u 0 2) (u 3) (σf 3) (σA 3) ++ (wX6 G (u 0 3) (u 4) (σf 4) (σA 4) ++ (wX6 G (u 0 4) (u 5) (σf 5) (σA 5) ++ (wB G (u 0 5) g aB fW AW ++ (wX5 G (u 0 6) (u 6) (σf 6) (σA 6) ++ (wX3 G (u 0 7) (u 7) (σf 7) (σA 7) ++ (wX4 G (u 0 8) (u 8) (σf 8) (σA 8) ++ (wX0 G (u 0 10) (u 9) (σf 9) (σA 9) ++ (wX2 G (u 0 11) (u 10) (σf 10) (σA 10) ++ (wX2 G (u 0 12) (u 11) (σf 11) (σA 11) ++ (wX10 G hM aM μf μA)))))))))))))) H → va_S (fun q : Nat => s.heap.size ≤ q) s.heap H locs → lv_has ls 4 [(0, .ref b), (1, .ref h), (2, .ref hM), (3, .int (nI j))] → W p l e room_1 s m #[Value.ref b] below meth c H locs cells slots (lw_Z below #[Value.ref b] s) (F0 m 18 ls [])) ∧ (∀ (h : Nat) (hM : Nat) (aM : Nat → Nat) (u : Nat → Nat → Nat) (g : Nat → Nat) (aB : Nat → Nat → Nat) (σf : Nat → Nat → Int32) (σA : Nat → Nat → Nat → Int32) (fW : Nat → Nat → Int32) (AW : Nat → Nat → Nat → Int32) (μf : Nat → Int32) (μA : Nat → Nat → Int32) (aW : Nat → Nat) (cells slots : Nat) (H : Heap) (locs : List Loc) (ls : Array Slot), cells ≤ 600000 → slots ≤ 7302250 → INV σf σA fW AW μf μA → WD G (fun q : Nat => s.heap.size ≤ q) (wX9 G h (u 0) (some (u 0 13)) (σf 0) (σA 0) ++ (wX7 G (u 0 0) (u 1) (σf 1) (σA 1) ++ (wX1 G (u 0 1) (u 2) (σf 2) (σA 2) ++ (wX6 G (u 0 2) (u 3) (σf 3) (σA 3) ++ (wX6 G (u 0 3) (u 4) (σf 4) (σA 4) ++ (wX6 G (u 0 4) (u 5) (σf 5) (σA 5) ++ (wB G (u 0 5) g aB fW AW ++ (wX5 G (u 0 6) (u 6) (σf 6) (σA 6) ++ (wX3 G (u 0 7) (u 7) (σf 7) (σA 7) ++ (wX4 G (u 0 8) (u 8) (σf 8) (σA 8) ++ (wX0 G (u 0 10) (u 9) (σf 9) (σA 9) ++ (wX2 G (u 0 11) (u 10) (σf 10) (σA 10) ++ (wX2 G (u 0 12) (u 11) (σf 11) (σA 11) ++ (wX8 G (u 0 13) aW (σf 12) (σA 12) ++ (wX10 G hM aM μf μA))))))))))))))) H → va_S (fun q : Nat => s.heap.size ≤ q) s.heap H locs → lv_has ls 4 [(0, .ref b), (1, .ref h), (2, .ref hM), (3, .int (nI j))] → W p l e room_1 s m #[Value.ref b] below meth c H locs cells slots (lw_Z below #[Value.ref b] s) (F0 m 18 ls [])) := by
  obtain ⟨K0, K1, K2, K3, K4, K5, K6, K7, K8, K9, K10, K11, K12, K13, K14, K15, K16, K17, K18, K19, K20, K21, K22, K23, K24, K25, K26, K27, K28, K29, K30, K31⟩ := HK
  obtain ⟨hx, hb, hml, hown, hts⟩ := C0.1
  have hbA : ¬ (fun q : Nat => s.heap.size ≤ q) b := Nat.not_le.mpr hbl
  intro n
  induction n with
  | zero => intro j h1 h2; exact absurd h1 (by omega)
  | succ n ih =>
    intro j h1 h2
    have inc : j + 6 ≤ L → (∀ (h : Nat) (hM : Nat) (aM : Nat → Nat) (u : Nat → Nat → Nat) (g : Nat → Nat) (aB : Nat → Nat → Nat) (σf : Nat → Nat → Int32) (σA : Nat → Nat → Nat → Int32) (fW : Nat → Nat → Int32) (AW : Nat → Nat → Nat → Int32) (μf : Nat → Int32) (μA : Nat → Nat → Int32) (cells slots : Nat) (H : Heap) (locs : List Loc) (ls : Array Slot), cells + 3 ≤ 600000 → slots + 81923 ≤ 7302250 → (σf 12 = fun _ => 0) → (σA 12 = fun _ _ => 0) → INV σf σA fW AW μf μA → WD G (fun q : Nat => s.heap.size ≤ q) (wX9 G h (u 0) none (σf 0) (σA 0) ++ (wX7 G (u 0 0) (u 1) (σf 1) (σA 1) ++ (wX1 G (u 0 1) (u 2) (σf 2) (σA 2) ++ (wX6 G (u 0 2) (u 3) (σf 3) (σA 3) ++ (wX6 G (u 0 3) (u 4) (σf 4) (σA 4) ++ (wX6 G (u 0 4) (u 5) (σf 5) (σA 5) ++ (wB G (u 0 5) g aB fW AW ++ (wX5 G (u 0 6) (u 6) (σf 6) (σA 6) ++ (wX3 G (u 0 7) (u 7) (σf 7) (σA 7) ++ (wX4 G (u 0 8) (u 8) (σf 8) (σA 8) ++ (wX0 G (u 0 10) (u 9) (σf 9) (σA 9) ++ (wX2 G (u 0 11) (u 10) (σf 10) (σA 10) ++ (wX2 G (u 0 12) (u 11) (σf 11) (σA 11) ++ (wX10 G hM aM μf μA)))))))))))))) H → va_S (fun q : Nat => s.heap.size ≤ q) s.heap H locs → lv_has ls 4 [(0, .ref b), (1, .ref h), (2, .ref hM), (3, .int (nI j))] → W p l e room_1 s m #[Value.ref b] below meth c H locs cells slots (lw_Z below #[Value.ref b] s) (F0 m 1152 ls [])) ∧ (∀ (h : Nat) (hM : Nat) (aM : Nat → Nat) (u : Nat → Nat → Nat) (g : Nat → Nat) (aB : Nat → Nat → Nat) (σf : Nat → Nat → Int32) (σA : Nat → Nat → Nat → Int32) (fW : Nat → Nat → Int32) (AW : Nat → Nat → Nat → Int32) (μf : Nat → Int32) (μA : Nat → Nat → Int32) (aW : Nat → Nat) (cells slots : Nat) (H : Heap) (locs : List Loc) (ls : Array Slot), cells ≤ 600000 → slots ≤ 7302250 → INV σf σA fW AW μf μA → WD G (fun q : Nat => s.heap.size ≤ q) (wX9 G h (u 0) (some (u 0 13)) (σf 0) (σA 0) ++ (wX7 G (u 0 0) (u 1) (σf 1) (σA 1) ++ (wX1 G (u 0 1) (u 2) (σf 2) (σA 2) ++ (wX6 G (u 0 2) (u 3) (σf 3) (σA 3) ++ (wX6 G (u 0 3) (u 4) (σf 4) (σA 4) ++ (wX6 G (u 0 4) (u 5) (σf 5) (σA 5) ++ (wB G (u 0 5) g aB fW AW ++ (wX5 G (u 0 6) (u 6) (σf 6) (σA 6) ++ (wX3 G (u 0 7) (u 7) (σf 7) (σA 7) ++ (wX4 G (u 0 8) (u 8) (σf 8) (σA 8) ++ (wX0 G (u 0 10) (u 9) (σf 9) (σA 9) ++ (wX2 G (u 0 11) (u 10) (σf 10) (σA 10) ++ (wX2 G (u 0 12) (u 11) (σf 11) (σA 11) ++ (wX8 G (u 0 13) aW (σf 12) (σA 12) ++ (wX10 G hM aM μf μA))))))))))))))) H → va_S (fun q : Nat => s.heap.size ≤ q) s.heap H locs → lv_has ls 4 [(0, .ref b), (1, .ref h), (2, .ref hM), (3, .int (nI j))] → W p l e room_1 s m #[Value.ref b] below meth c H locs cells slots (lw_Z below #[Value.ref b] s) (F0 m 1152 ls [])) := by
      intro hj
      obtain ⟨i0, i1⟩ := ih (j + 6) (by omega) (by omega)
      refine ⟨?_, ?_⟩
      · intro h hM aM u g aB σf σA fW AW μf μA cells slots H locs ls hc1 hc2 hz1 hz2 hI hPD hS hl
        refine lv_iinc (v := nI (j + 6)) (lv' := [(3, .int (nI (j + 6))), (0, .ref b), (1, .ref h), (2, .ref hM)]) hx hb dL_law_1152 hl (k := 3) rfl (nI_add j 6) (by decide) rfl (fun ls hl => ?_)
        refine lv_goto (tgt := 18) hx hb dL_law_1155 (by decide) ?_
        exact i0 h hM aM u g aB σf σA fW AW μf μA cells slots H locs ls hc1 hc2 hz1 hz2 hI hPD hS (lv_sub hl [1, 2, 3, 0] rfl)
      · intro h hM aM u g aB σf σA fW AW μf μA aW cells slots H locs ls hc1 hc2 hI hPD hS hl
        refine lv_iinc (v := nI (j + 6)) (lv' := [(3, .int (nI (j + 6))), (0, .ref b), (1, .ref h), (2, .ref hM)]) hx hb dL_law_1152 hl (k := 3) rfl (nI_add j 6) (by decide) rfl (fun ls hl => ?_)
        refine lv_goto (tgt := 18) hx hb dL_law_1155 (by decide) ?_
        exact i1 h hM aM u g aB σf σA fW AW μf μA aW cells slots H locs ls hc1 hc2 hI hPD hS (lv_sub hl [1, 2, 3, 0] rfl)
    refine ⟨?_, ?_⟩
    · intro h hM aM u g aB σf σA fW AW μf μA cells slots H locs ls hc1 hc2 hz1 hz2 hI hPD hS hl
      refine lv_iload_n hx hb dL_law_18 rfl (lv_at hl 3 rfl) ?_
      refine lv_aload_n hx hb dL_law_19 rfl (lv_at hl 0 rfl) ?_
      refine va_slen hx hb hX hbl hbA hS dL_law_20 ?_
      refine lv_bipush (v := 6) hx hb dL_law_21 (by decide) ?_
      refine lv_isub hx hb dL_law_23 ?_
      refine lv_icmp_gt (tgt := 1158) hx hb dL_law_24 (by decide) (fun cc1 => ?_) (fun cc1 => ?_)
      · refine lv_iconst (v := 1) hx hb dL_law_1158 (by decide) ?_
        refine va_forget (fun q hq => hS.2.2 q hq) ?_
        refine W.widen (k := 600000) (n := 7302250) (by omega) (by omega) ?_
        exact lw_ret hx hb C0.2.1 hlk dL_law_1159
      · have hj : j + 6 ≤ L := le_of_cc hL h2 cc1
        have hcr : cells ≤ room_1.cells ∧ slots ≤ room_1.slots := ⟨Nat.le_trans (by omega : cells ≤ 600000) (Nat.le_of_ble_eq_true rfl), Nat.le_trans (by omega : slots ≤ 7302250) (Nat.le_of_ble_eq_true rfl)⟩
        refine lv_aload_n hx hb dL_law_27 rfl (lv_at hl 0 rfl) ?_
        refine lv_iload_n hx hb dL_law_28 rfl (lv_at hl 3 rfl) ?_
        refine va_sld hx hb hX hbl hbA hS (vp_in_nI (by omega) (by omega)) dL_law_29 ?_
        refine lv_bipush (v := 31) hx hb dL_law_30 (by decide) ?_
        refine lv_iand hx hb dL_law_32 ?_
        obtain ⟨k, hk, ek⟩ := pk_andE (xs (nI j).toNatClampNeg) (m := 31) 5 (by decide)
        rcases lt32 hk with rfl | rfl | rfl | rfl | rfl | rfl | rfl | rfl | rfl | rfl | rfl | rfl | rfl | rfl | rfl | rfl | rfl | rfl | rfl | rfl | rfl | rfl | rfl | rfl | rfl | rfl | rfl | rfl | rfl | rfl | rfl | rfl
        · refine lv_swT (tgt := 176) (k := 0) hx hb dL_law_33 (ek.trans rfl) (by decide) (by decide) ?_
          obtain ⟨r, r', h_r, h_rm, he, hI2⟩ := K0 σf σA fW AW μf μA (xs (nI j + 1).toNatClampNeg) (xs (nI j + 2).toNatClampNeg) (xs (nI j + 3).toNatClampNeg) hI
          exact lc0_place (aW := fun _ => 0) C0 hX hbl hcr (vin_add (k := 1) (by omega) hL rfl) rfl (vin_add (k := 2) (by omega) hL rfl) rfl (vin_add (k := 3) (by omega) hL rfl) rfl h_r h_rm he (fun u g aB H locs ls hPD hS hl => (inc hj).1 h hM aM u g aB (cset σf 2 (r.2.1)) (cset σA 3 (r.2.2)) fW AW (r'.2.2) (r'.2.1) cells slots H locs ls hc1 hc2 hz1 hz2 hI2 hPD hS hl) H locs ls hPD hS hl
        · refine lv_swT (tgt := 219) (k := 1) hx hb dL_law_33 (ek.trans rfl) (by decide) (by decide) ?_
          obtain ⟨r, r', h_r, h_rm, he, hI2⟩ := K1 σf σA fW AW μf μA (xs (nI j + 1).toNatClampNeg) (xs (nI j + 2).toNatClampNeg) hI
          exact lc0_constable (aW := fun _ => 0) C0 hX hbl hcr (vin_add (k := 1) (by omega) hL rfl) rfl (vin_add (k := 2) (by omega) hL rfl) rfl h_r h_rm he (fun u g aB H locs ls hPD hS hl => (inc hj).1 h hM aM u g aB (cset σf 3 (r.2.2)) (cset σA 3 (r.2.1)) fW AW μf (r'.2) cells slots H locs ls hc1 hc2 hz1 hz2 hI2 hPD hS hl) H locs ls hPD hS hl
        · refine lv_swT (tgt := 252) (k := 2) hx hb dL_law_33 (ek.trans rfl) (by decide) (by decide) ?_
          obtain ⟨r, r', h_r, h_rm, he, hI2⟩ := K2 σf σA fW AW μf μA (xs (nI j + 1).toNatClampNeg) (xs (nI j + 2).toNatClampNeg) (xs (nI j + 3).toNatClampNeg) (xs (nI j + 4).toNatClampNeg) (xs (nI j + 5).toNatClampNeg) hI
          exact lc0_feed (aW := fun _ => 0) C0 hX hbl hcr (vin_add (k := 1) (by omega) hL rfl) rfl (vin_add (k := 2) (by omega) hL rfl) rfl (vin_add (k := 3) (by omega) hL rfl) rfl (vin_add (k := 4) (by omega) hL rfl) rfl (vin_add (k := 5) (by omega) hL rfl) rfl h_r h_rm he (fun u g aB H locs ls hPD hS hl => (inc hj).1 h hM aM u g aB (cset σf 1 (r.2.2)) (cset σA 1 (r.2.1)) fW AW (r'.2.2) (r'.2.1) cells slots H locs ls hc1 hc2 hz1 hz2 hI2 hPD hS hl) H locs ls hPD hS hl
        · refine lv_swT (tgt := 315) (k := 3) hx hb dL_law_33 (ek.trans rfl) (by decide) (by decide) ?_
          obtain ⟨r, r', h_r, h_rm, he, hI2⟩ := K3 σf σA fW AW μf μA (xs (nI j + 1).toNatClampNeg) hI
          exact lc0_law (aW := fun _ => 0) C0 hX hbl hcr (vin_add (k := 1) (by omega) hL rfl) rfl h_r h_rm he (fun u g aB H locs ls hPD hS hl => (inc hj).1 h hM aM u g aB (cset (cset (cset σf 1 (r.2.1)) 10 (r.2.2.2.1)) 11 (r.2.2.2.2.2)) (cset (cset σA 10 (r.2.2.1)) 11 (r.2.2.2.2.1)) fW AW (r'.2.2) (r'.2.1) cells slots H locs ls hc1 hc2 hz1 hz2 hI2 hPD hS hl) H locs ls hPD hS hl
        · refine lv_swT (tgt := 338) (k := 4) hx hb dL_law_33 (ek.trans rfl) (by decide) (by decide) ?_
          obtain ⟨r, r', h_r, h_rm, he, hI2⟩ := K4 σf σA fW AW μf μA (xs (nI j + 1).toNatClampNeg) (xs (nI j + 2).toNatClampNeg) hI
          exact lc0_beat (aW := fun _ => 0) C0 hX hbl hcr (vin_add (k := 1) (by omega) hL rfl) rfl (vin_add (k := 2) (by omega) hL rfl) rfl h_r h_rm he (fun u g aB H locs ls hPD hS hl => (inc hj).1 h hM aM u g aB (cset (cset σf 1 (r.2.1)) 9 (r.2.2.2.2.2)) (cset σA 9 (r.2.2.2.2.1)) (r.2.2.2.1) (r.2.2.1) (r'.2.2) (r'.2.1) cells slots H locs ls hc1 hc2 hz1 hz2 hI2 hPD hS hl) H locs ls hPD hS hl
        · refine lv_swT (tgt := 371) (k := 5) hx hb dL_law_33 (ek.trans rfl) (by decide) (by decide) ?_
          obtain ⟨r, r', h_r, h_rm, he, hI2⟩ := K5 σf σA fW AW μf μA (xs (nI j + 1).toNatClampNeg) hI
          exact lc0_pleas (aW := fun _ => 0) C0 hX hbl hcr (vin_add (k := 1) (by omega) hL rfl) rfl h_r h_rm he (fun u g aB H locs ls hPD hS hl => (inc hj).1 h hM aM u g aB (cset (cset σf 1 (r.2.1)) 7 (r.2.2.2.2.2)) (cset (cset (cset σA 2 (r.2.2.1)) 3 (r.2.2.2.1)) 7 (r.2.2.2.2.1)) fW AW (r'.2.2) (r'.2.1) cells slots H locs ls hc1 hc2 hz1 hz2 hI2 hPD hS hl) H locs ls hPD hS hl
        · refine lv_swT (tgt := 394) (k := 6) hx hb dL_law_33 (ek.trans rfl) (by decide) (by decide) ?_
          obtain ⟨r, r', h_r, h_rm, he, hI2⟩ := K6 σf σA fW AW μf μA (xs (nI j + 1).toNatClampNeg) hI
          exact lc0_hours (aW := fun _ => 0) C0 hX hbl hcr (vin_add (k := 1) (by omega) hL rfl) rfl h_r h_rm he (fun u g aB H locs ls hPD hS hl => (inc hj).1 h hM aM u g aB (cset (cset (cset σf 3 (r.2.2.1)) 6 (r.2.2.2.2.1)) 10 (r.2.2.2.2.2.2)) (cset (cset (cset σA 3 (r.2.1)) 6 (r.2.2.2.1)) 10 (r.2.2.2.2.2.1)) fW AW (r'.2.2) (r'.2.1) cells slots H locs ls hc1 hc2 hz1 hz2 hI2 hPD hS hl) H locs ls hPD hS hl
        · refine lv_swT (tgt := 417) (k := 7) hx hb dL_law_33 (ek.trans rfl) (by decide) (by decide) ?_
          obtain ⟨r, r', h_r, h_rm, he, hI2⟩ := K7 σf σA fW AW μf μA (xs (nI j + 1).toNatClampNeg) (xs (nI j + 2).toNatClampNeg) hI
          exact lc0_tried (aW := fun _ => 0) C0 hX hbl hcr (vin_add (k := 1) (by omega) hL rfl) rfl (vin_add (k := 2) (by omega) hL rfl) rfl h_r h_rm he (fun u g aB H locs ls hPD hS hl => (inc hj).1 h hM aM u g aB (cset (cset (cset σf 4 (r.2.2.1)) 6 (r.2.2.2.2.1)) 10 (r.2.2.2.2.2.2)) (cset (cset (cset σA 4 (r.2.1)) 6 (r.2.2.2.1)) 10 (r.2.2.2.2.2.1)) fW AW (r'.2.2) (r'.2.1) cells slots H locs ls hc1 hc2 hz1 hz2 hI2 hPD hS hl) H locs ls hPD hS hl
        · refine lv_swT (tgt := 450) (k := 8) hx hb dL_law_33 (ek.trans rfl) (by decide) (by decide) ?_
          obtain ⟨r, r', h_r, h_rm, he, hI2⟩ := K8 σf σA fW AW μf μA (xs (nI j + 1).toNatClampNeg) (xs (nI j + 2).toNatClampNeg) hI
          exact lc0_placeIs (aW := fun _ => 0) C0 hX hbl hcr (vin_add (k := 1) (by omega) hL rfl) rfl (vin_add (k := 2) (by omega) hL rfl) rfl h_r h_rm he (fun u g aB H locs ls hPD hS hl => (inc hj).1 h hM aM u g aB σf σA fW AW μf μA cells slots H locs ls hc1 hc2 hz1 hz2 hI2 hPD hS hl) H locs ls hPD hS hl
        · refine lv_swT (tgt := 483) (k := 9) hx hb dL_law_33 (ek.trans rfl) (by decide) (by decide) ?_
          obtain ⟨r, r', h_r, h_rm, he, hI2⟩ := K9 σf σA fW AW μf μA (xs (nI j + 1).toNatClampNeg) (xs (nI j + 2).toNatClampNeg) hI
          exact lc0_constableIs (aW := fun _ => 0) C0 hX hbl hcr (vin_add (k := 1) (by omega) hL rfl) rfl (vin_add (k := 2) (by omega) hL rfl) rfl h_r h_rm he (fun u g aB H locs ls hPD hS hl => (inc hj).1 h hM aM u g aB σf σA fW AW μf μA cells slots H locs ls hc1 hc2 hz1 hz2 hI2 hPD hS hl) H locs ls hPD hS hl
        · refine lv_swT (tgt := 516) (k := 10) hx hb dL_law_33 (ek.trans rfl) (by decide) (by decide) ?_
          obtain ⟨r, r', h_r, h_rm, he, hI2⟩ := K10 σf σA fW AW μf μA (xs (nI j + 1).toNatClampNeg) (xs (nI j + 2).toNatClampNeg) hI
          exact lc0_alone (aW := fun _ => 0) C0 hX hbl hcr (vin_add (k := 1) (by omega) hL rfl) rfl (vin_add (k := 2) (by omega) hL rfl) rfl h_r h_rm he (fun u g aB H locs ls hPD hS hl => (inc hj).1 h hM aM u g aB (cset (cset (cset σf 4 (r.2.2.1)) 6 (r.2.2.2.2.1)) 10 (r.2.2.2.2.2.2)) (cset (cset (cset σA 4 (r.2.1)) 6 (r.2.2.2.1)) 10 (r.2.2.2.2.2.1)) fW AW (r'.2.2) (r'.2.1) cells slots H locs ls hc1 hc2 hz1 hz2 hI2 hPD hS hl) H locs ls hPD hS hl
        · refine lv_swT (tgt := 549) (k := 11) hx hb dL_law_33 (ek.trans rfl) (by decide) (by decide) ?_
          obtain ⟨r, r', h_r, h_rm, he, hI2⟩ := K11 σf σA fW AW μf μA (xs (nI j + 1).toNatClampNeg) (xs (nI j + 2).toNatClampNeg) (xs (nI j + 3).toNatClampNeg) hI
          exact lc0_together (aW := fun _ => 0) C0 hX hbl hcr (vin_add (k := 1) (by omega) hL rfl) rfl (vin_add (k := 2) (by omega) hL rfl) rfl (vin_add (k := 3) (by omega) hL rfl) rfl h_r h_rm he (fun u g aB H locs ls hPD hS hl => (inc hj).1 h hM aM u g aB (cset (cset (cset σf 4 (r.2.2.1)) 6 (r.2.2.2.2.1)) 10 (r.2.2.2.2.2.2)) (cset (cset (cset σA 4 (r.2.1)) 6 (r.2.2.2.1)) 10 (r.2.2.2.2.2.1)) fW AW (r'.2.2) (r'.2.1) cells slots H locs ls hc1 hc2 hz1 hz2 hI2 hPD hS hl) H locs ls hPD hS hl
        · refine lv_swT (tgt := 592) (k := 12) hx hb dL_law_33 (ek.trans rfl) (by decide) (by decide) ?_
          obtain ⟨r, r', h_r, h_rm, he, hI2⟩ := K12 σf σA fW AW μf μA (xs (nI j + 1).toNatClampNeg) hI
          exact lc0_seen (aW := fun _ => 0) C0 hX hbl hcr (vin_add (k := 1) (by omega) hL rfl) rfl h_r h_rm he (fun u g aB H locs ls hPD hS hl => (inc hj).1 h hM aM u g aB (cset (cset (cset σf 4 (r.2.2.1)) 6 (r.2.2.2.2.1)) 10 (r.2.2.2.2.2.2)) (cset (cset (cset σA 4 (r.2.1)) 6 (r.2.2.2.1)) 10 (r.2.2.2.2.2.1)) fW AW (r'.2.2) (r'.2.1) cells slots H locs ls hc1 hc2 hz1 hz2 hI2 hPD hS hl) H locs ls hPD hS hl
        · refine lv_swT (tgt := 615) (k := 13) hx hb dL_law_33 (ek.trans rfl) (by decide) (by decide) ?_
          obtain ⟨r, r', h_r, h_rm, he, hI2⟩ := K13 σf σA fW AW μf μA (xs (nI j + 1).toNatClampNeg) hI
          exact lc0_quiet (aW := fun _ => 0) C0 hX hbl hcr (vin_add (k := 1) (by omega) hL rfl) rfl h_r h_rm he (fun u g aB H locs ls hPD hS hl => (inc hj).1 h hM aM u g aB (cset (cset (cset σf 4 (r.2.2.1)) 6 (r.2.2.2.2.1)) 10 (r.2.2.2.2.2.2)) (cset (cset (cset σA 4 (r.2.1)) 6 (r.2.2.2.1)) 10 (r.2.2.2.2.2.1)) fW AW (r'.2.2) (r'.2.1) cells slots H locs ls hc1 hc2 hz1 hz2 hI2 hPD hS hl) H locs ls hPD hS hl
        · refine lv_swT (tgt := 638) (k := 14) hx hb dL_law_33 (ek.trans rfl) (by decide) (by decide) ?_
          obtain ⟨r, r', h_r, h_rm, he, hI2⟩ := K14 σf σA fW AW μf μA (xs (nI j + 1).toNatClampNeg) (xs (nI j + 2).toNatClampNeg) hI
          exact lc0_ways (aW := fun _ => 0) C0 hX hbl hcr (vin_add (k := 1) (by omega) hL rfl) rfl (vin_add (k := 2) (by omega) hL rfl) rfl h_r h_rm he (fun u g aB H locs ls hPD hS hl => (inc hj).1 h hM aM u g aB σf (cset σA 2 (r.2)) fW AW μf (r'.2) cells slots H locs ls hc1 hc2 hz1 hz2 hI2 hPD hS hl) H locs ls hPD hS hl
        · refine lv_swT (tgt := 671) (k := 15) hx hb dL_law_33 (ek.trans rfl) (by decide) (by decide) ?_
          obtain ⟨r, r', h_r, h_rm, he, hI2⟩ := K15 σf σA fW AW μf μA  hI
          exact lc0_worst (aW := fun _ => 0) C0 hX hbl hcr  h_r h_rm he (fun u g aB H locs ls hPD hS hl => (inc hj).1 h hM aM u g aB σf σA fW AW μf μA cells slots H locs ls hc1 hc2 hz1 hz2 hI2 hPD hS hl) H locs ls hPD hS hl
        · refine lv_swT (tgt := 684) (k := 16) hx hb dL_law_33 (ek.trans rfl) (by decide) (by decide) ?_
          obtain ⟨r, r', h_r, h_rm, he, hI2⟩ := K16 σf σA fW AW μf μA (xs (nI j + 1).toNatClampNeg) hI
          exact lc0_posts (aW := fun _ => 0) C0 hX hbl hcr (vin_add (k := 1) (by omega) hL rfl) rfl h_r h_rm he (fun u g aB H locs ls hPD hS hl => (inc hj).1 h hM aM u g aB σf σA fW AW μf μA cells slots H locs ls hc1 hc2 hz1 hz2 hI2 hPD hS hl) H locs ls hPD hS hl
        · refine lv_swT (tgt := 707) (k := 17) hx hb dL_law_33 (ek.trans rfl) (by decide) (by decide) ?_
          obtain ⟨r, r', h_r, h_rm, he, hI2⟩ := K17 σf σA fW AW μf μA (xs (nI j + 1).toNatClampNeg) (xs (nI j + 2).toNatClampNeg) (xs (nI j + 3).toNatClampNeg) hI
          rw [hz1, hz2] at h_r
          by_cases hv : f1_isTold (σf 2) (σA 2) (xs (nI j + 1).toNatClampNeg) = 0 ∨ f9_within (xs (nI j + 2).toNatClampNeg) 1 8 = 0 ∨ f9_within (xs (nI j + 3).toNatClampNeg) 0 1 = 0
          · have e := round_bad hv h_r
            subst e
            have e1 : cset σf 12 (fun _ => 0) = σf := by rw [← hz1]; exact cset_self σf 12
            have e2 : cset σA 12 (fun _ _ => 0) = σA := by rw [← hz2]; exact cset_self σA 12
            dsimp only at hI2 he
            rw [e1, e2] at hI2
            exact lc0_roundA (aW := fun _ => 0) C0 hX hbl hcr (vin_add (k := 1) (by omega) hL rfl) rfl (vin_add (k := 2) (by omega) hL rfl) rfl (vin_add (k := 3) (by omega) hL rfl) rfl hv h_rm he (fun u g aB H locs ls hPD hS hl => (inc hj).1 h hM aM u g aB σf σA fW AW μf (r'.2) cells slots H locs ls hc1 hc2 hz1 hz2 hI2 hPD hS hl) H locs ls hPD hS hl
          · exact lc0_roundB C0 hX hbl ⟨Nat.le_trans hc1 (Nat.le_of_ble_eq_true rfl), Nat.le_trans hc2 (Nat.le_of_ble_eq_true rfl)⟩ (vin_add (k := 1) (by omega) hL rfl) rfl (vin_add (k := 2) (by omega) hL rfl) rfl (vin_add (k := 3) (by omega) hL rfl) rfl (fun h => hv (Or.inl h)) (fun h => hv (Or.inr (Or.inl h))) (fun h => hv (Or.inr (Or.inr h))) h_r h_rm he (fun u g aB aW H locs ls hPD hS hl => (inc hj).2 h hM aM u g aB (cset σf 12 (r.2.2)) (cset σA 12 (r.2.1)) fW AW μf (r'.2) aW (cells + 3) (slots + 81923) H locs ls hc1 hc2 hI2 hPD hS hl) H locs ls hPD hS hl
        · refine lv_swT (tgt := 750) (k := 18) hx hb dL_law_33 (ek.trans rfl) (by decide) (by decide) ?_
          obtain ⟨r, r', h_r, h_rm, he, hI2⟩ := K18 σf σA fW AW μf μA (xs (nI j + 1).toNatClampNeg) hI
          exact lc0_lanes (aW := fun _ => 0) C0 hX hbl hcr (vin_add (k := 1) (by omega) hL rfl) rfl h_r h_rm he (fun u g aB H locs ls hPD hS hl => (inc hj).1 h hM aM u g aB σf (cset σA 2 (r.2)) fW AW μf (r'.2) cells slots H locs ls hc1 hc2 hz1 hz2 hI2 hPD hS hl) H locs ls hPD hS hl
        · refine lv_swT (tgt := 773) (k := 19) hx hb dL_law_33 (ek.trans rfl) (by decide) (by decide) ?_
          obtain ⟨r, r', h_r, h_rm, he, hI2⟩ := K19 σf σA fW AW μf μA (xs (nI j + 1).toNatClampNeg) hI
          exact lc0_watches (aW := fun _ => 0) C0 hX hbl hcr (vin_add (k := 1) (by omega) hL rfl) rfl h_r h_rm he (fun u g aB H locs ls hPD hS hl => (inc hj).1 h hM aM u g aB σf (cset σA 8 (r.2)) fW AW μf (r'.2) cells slots H locs ls hc1 hc2 hz1 hz2 hI2 hPD hS hl) H locs ls hPD hS hl
        · refine lv_swT (tgt := 796) (k := 20) hx hb dL_law_33 (ek.trans rfl) (by decide) (by decide) ?_
          obtain ⟨r, r', h_r, h_rm, he, hI2⟩ := K20 σf σA fW AW μf μA (xs (nI j + 1).toNatClampNeg) (xs (nI j + 2).toNatClampNeg) (xs (nI j + 3).toNatClampNeg) hI
          exact lc0_way (aW := fun _ => 0) C0 hX hbl hcr (vin_add (k := 1) (by omega) hL rfl) rfl (vin_add (k := 2) (by omega) hL rfl) rfl (vin_add (k := 3) (by omega) hL rfl) rfl h_r h_rm he (fun u g aB H locs ls hPD hS hl => (inc hj).1 h hM aM u g aB σf (cset σA 2 (r.2)) fW AW μf (r'.2) cells slots H locs ls hc1 hc2 hz1 hz2 hI2 hPD hS hl) H locs ls hPD hS hl
        · refine lv_swT (tgt := 839) (k := 21) hx hb dL_law_33 (ek.trans rfl) (by decide) (by decide) ?_
          obtain ⟨r, r', h_r, h_rm, he, hI2⟩ := K21 σf σA fW AW μf μA (xs (nI j + 1).toNatClampNeg) (xs (nI j + 2).toNatClampNeg) hI
          exact lc0_nearest (aW := fun _ => 0) C0 hX hbl hcr (vin_add (k := 1) (by omega) hL rfl) rfl (vin_add (k := 2) (by omega) hL rfl) rfl h_r h_rm he (fun u g aB H locs ls hPD hS hl => (inc hj).1 h hM aM u g aB σf (cset σA 2 (r.2)) fW AW μf (r'.2) cells slots H locs ls hc1 hc2 hz1 hz2 hI2 hPD hS hl) H locs ls hPD hS hl
        · refine lv_swT (tgt := 872) (k := 22) hx hb dL_law_33 (ek.trans rfl) (by decide) (by decide) ?_
          obtain ⟨r, r', h_r, h_rm, he, hI2⟩ := K22 σf σA fW AW μf μA (xs (nI j + 1).toNatClampNeg) (xs (nI j + 2).toNatClampNeg) (xs (nI j + 3).toNatClampNeg) hI
          exact lc0_alibis (aW := fun _ => 0) C0 hX hbl hcr (vin_add (k := 1) (by omega) hL rfl) rfl (vin_add (k := 2) (by omega) hL rfl) rfl (vin_add (k := 3) (by omega) hL rfl) rfl h_r h_rm he (fun u g aB H locs ls hPD hS hl => (inc hj).1 h hM aM u g aB (cset σf 1 (r.2.1)) (cset σA 2 (r.2.2)) fW AW (r'.2.2) (r'.2.1) cells slots H locs ls hc1 hc2 hz1 hz2 hI2 hPD hS hl) H locs ls hPD hS hl
        · refine lv_swT (tgt := 915) (k := 23) hx hb dL_law_33 (ek.trans rfl) (by decide) (by decide) ?_
          obtain ⟨r, r', h_r, h_rm, he, hI2⟩ := K23 σf σA fW AW μf μA (xs (nI j + 1).toNatClampNeg) (xs (nI j + 2).toNatClampNeg) (xs (nI j + 3).toNatClampNeg) hI
          exact lc0_bench (aW := fun _ => 0) C0 hX hbl hcr (vin_add (k := 1) (by omega) hL rfl) rfl (vin_add (k := 2) (by omega) hL rfl) rfl (vin_add (k := 3) (by omega) hL rfl) rfl h_r h_rm he (fun u g aB H locs ls hPD hS hl => (inc hj).1 h hM aM u g aB (cset σf 1 (r.2.2)) (cset σA 0 (r.2.1)) fW AW (r'.2.2) (r'.2.1) cells slots H locs ls hc1 hc2 hz1 hz2 hI2 hPD hS hl) H locs ls hPD hS hl
        · refine lv_swT (tgt := 958) (k := 24) hx hb dL_law_33 (ek.trans rfl) (by decide) (by decide) ?_
          obtain ⟨r, r', h_r, h_rm, he, hI2⟩ := K24 σf σA fW AW μf μA (xs (nI j + 1).toNatClampNeg) (xs (nI j + 2).toNatClampNeg) hI
          exact lc0_likely (aW := fun _ => 0) C0 hX hbl hcr (vin_add (k := 1) (by omega) hL rfl) rfl (vin_add (k := 2) (by omega) hL rfl) rfl h_r h_rm he (fun u g aB H locs ls hPD hS hl => (inc hj).1 h hM aM u g aB (cset σf 1 (r.2)) σA fW AW (r'.2) μA cells slots H locs ls hc1 hc2 hz1 hz2 hI2 hPD hS hl) H locs ls hPD hS hl
        · refine lv_swT (tgt := 991) (k := 25) hx hb dL_law_33 (ek.trans rfl) (by decide) (by decide) ?_
          obtain ⟨r, r', h_r, h_rm, he, hI2⟩ := K25 σf σA fW AW μf μA (xs (nI j + 1).toNatClampNeg) (xs (nI j + 2).toNatClampNeg) hI
          exact lc0_share (aW := fun _ => 0) C0 hX hbl hcr (vin_add (k := 1) (by omega) hL rfl) rfl (vin_add (k := 2) (by omega) hL rfl) rfl h_r h_rm he (fun u g aB H locs ls hPD hS hl => (inc hj).1 h hM aM u g aB (cset σf 1 (r.2)) σA fW AW (r'.2) μA cells slots H locs ls hc1 hc2 hz1 hz2 hI2 hPD hS hl) H locs ls hPD hS hl
        · refine lv_swT (tgt := 1024) (k := 26) hx hb dL_law_33 (ek.trans rfl) (by decide) (by decide) ?_
          obtain ⟨r, r', h_r, h_rm, he, hI2⟩ := K26 σf σA fW AW μf μA (xs (nI j + 1).toNatClampNeg) (xs (nI j + 2).toNatClampNeg) hI
          exact lc0_odds (aW := fun _ => 0) C0 hX hbl hcr (vin_add (k := 1) (by omega) hL rfl) rfl (vin_add (k := 2) (by omega) hL rfl) rfl h_r h_rm he (fun u g aB H locs ls hPD hS hl => (inc hj).1 h hM aM u g aB (cset σf 1 (r.2)) σA fW AW (r'.2) μA cells slots H locs ls hc1 hc2 hz1 hz2 hI2 hPD hS hl) H locs ls hPD hS hl
        · refine lv_swT (tgt := 1057) (k := 27) hx hb dL_law_33 (ek.trans rfl) (by decide) (by decide) ?_
          obtain ⟨r, r', h_r, h_rm, he, hI2⟩ := K27 σf σA fW AW μf μA (xs (nI j + 1).toNatClampNeg) hI
          exact lc0_seed (aW := fun _ => 0) C0 hX hbl hcr (vin_add (k := 1) (by omega) hL rfl) rfl h_r h_rm he (fun u g aB H locs ls hPD hS hl => (inc hj).1 h hM aM u g aB (cset σf 3 (r.2)) σA fW AW μf (r'.2) cells slots H locs ls hc1 hc2 hz1 hz2 hI2 hPD hS hl) H locs ls hPD hS hl
        · refine lv_swT (tgt := 1080) (k := 28) hx hb dL_law_33 (ek.trans rfl) (by decide) (by decide) ?_
          obtain ⟨r, r', h_r, h_rm, he, hI2⟩ := K28 σf σA fW AW μf μA  hI
          exact lc0_keep (aW := fun _ => 0) C0 hX hbl hcr  h_r h_rm he (fun u g aB H locs ls hPD hS hl => (inc hj).1 h hM aM u g aB (cset (cset σf 0 (r.2.1)) 5 (r.2.2.2)) (cset σA 5 (r.2.2.1)) fW AW (r'.2.2) (r'.2.1) cells slots H locs ls hc1 hc2 hz1 hz2 hI2 hPD hS hl) H locs ls hPD hS hl
        · refine lv_swT (tgt := 1093) (k := 29) hx hb dL_law_33 (ek.trans rfl) (by decide) (by decide) ?_
          obtain ⟨r, r', h_r, h_rm, he, hI2⟩ := K29 σf σA fW AW μf μA  hI
          exact lc0_undo (aW := fun _ => 0) C0 hX hbl hcr  h_r h_rm he (fun u g aB H locs ls hPD hS hl => (inc hj).1 h hM aM u g aB (cset σf 3 (r.2.2)) (cset σA 3 (r.2.1)) fW AW μf (r'.2) cells slots H locs ls hc1 hc2 hz1 hz2 hI2 hPD hS hl) H locs ls hPD hS hl
        · refine lv_swT (tgt := 1106) (k := 30) hx hb dL_law_33 (ek.trans rfl) (by decide) (by decide) ?_
          obtain ⟨r, r', h_r, h_rm, he, hI2⟩ := K30 σf σA fW AW μf μA (xs (nI j + 1).toNatClampNeg) hI
          exact lc0_check (aW := fun _ => 0) C0 hX hbl hcr (vin_add (k := 1) (by omega) hL rfl) rfl h_r h_rm he (fun u g aB H locs ls hPD hS hl => (inc hj).1 h hM aM u g aB (cset σf 1 (r.2)) σA fW AW (r'.2) μA cells slots H locs ls hc1 hc2 hz1 hz2 hI2 hPD hS hl) H locs ls hPD hS hl
        · refine lv_swT (tgt := 1129) (k := 31) hx hb dL_law_33 (ek.trans rfl) (by decide) (by decide) ?_
          obtain ⟨r, r', h_r, h_rm, he, hI2⟩ := K31 σf σA fW AW μf μA (xs (nI j + 1).toNatClampNeg) hI
          exact lc0_count (aW := fun _ => 0) C0 hX hbl hcr (vin_add (k := 1) (by omega) hL rfl) rfl h_r h_rm he (fun u g aB H locs ls hPD hS hl => (inc hj).1 h hM aM u g aB σf σA fW AW μf μA cells slots H locs ls hc1 hc2 hz1 hz2 hI2 hPD hS hl) H locs ls hPD hS hl
    · intro h hM aM u g aB σf σA fW AW μf μA aW cells slots H locs ls hc1 hc2 hI hPD hS hl
      refine lv_iload_n hx hb dL_law_18 rfl (lv_at hl 3 rfl) ?_
      refine lv_aload_n hx hb dL_law_19 rfl (lv_at hl 0 rfl) ?_
      refine va_slen hx hb hX hbl hbA hS dL_law_20 ?_
      refine lv_bipush (v := 6) hx hb dL_law_21 (by decide) ?_
      refine lv_isub hx hb dL_law_23 ?_
      refine lv_icmp_gt (tgt := 1158) hx hb dL_law_24 (by decide) (fun cc1 => ?_) (fun cc1 => ?_)
      · refine lv_iconst (v := 1) hx hb dL_law_1158 (by decide) ?_
        refine va_forget (fun q hq => hS.2.2 q hq) ?_
        refine W.widen (k := 600000) (n := 7302250) (by omega) (by omega) ?_
        exact lw_ret hx hb C0.2.1 hlk dL_law_1159
      · have hj : j + 6 ≤ L := le_of_cc hL h2 cc1
        have hcr : cells ≤ room_1.cells ∧ slots ≤ room_1.slots := ⟨Nat.le_trans (by omega : cells ≤ 600000) (Nat.le_of_ble_eq_true rfl), Nat.le_trans (by omega : slots ≤ 7302250) (Nat.le_of_ble_eq_true rfl)⟩
        refine lv_aload_n hx hb dL_law_27 rfl (lv_at hl 0 rfl) ?_
        refine lv_iload_n hx hb dL_law_28 rfl (lv_at hl 3 rfl) ?_
        refine va_sld hx hb hX hbl hbA hS (vp_in_nI (by omega) (by omega)) dL_law_29 ?_
        refine lv_bipush (v := 31) hx hb dL_law_30 (by decide) ?_
        refine lv_iand hx hb dL_law_32 ?_
        obtain ⟨k, hk, ek⟩ := pk_andE (xs (nI j).toNatClampNeg) (m := 31) 5 (by decide)
        rcases lt32 hk with rfl | rfl | rfl | rfl | rfl | rfl | rfl | rfl | rfl | rfl | rfl | rfl | rfl | rfl | rfl | rfl | rfl | rfl | rfl | rfl | rfl | rfl | rfl | rfl | rfl | rfl | rfl | rfl | rfl | rfl | rfl | rfl
        · refine lv_swT (tgt := 176) (k := 0) hx hb dL_law_33 (ek.trans rfl) (by decide) (by decide) ?_
          obtain ⟨r, r', h_r, h_rm, he, hI2⟩ := K0 σf σA fW AW μf μA (xs (nI j + 1).toNatClampNeg) (xs (nI j + 2).toNatClampNeg) (xs (nI j + 3).toNatClampNeg) hI
          exact lc1_place C0 hX hbl hcr (vin_add (k := 1) (by omega) hL rfl) rfl (vin_add (k := 2) (by omega) hL rfl) rfl (vin_add (k := 3) (by omega) hL rfl) rfl h_r h_rm he (fun u g aB H locs ls hPD hS hl => (inc hj).2 h hM aM u g aB (cset σf 2 (r.2.1)) (cset σA 3 (r.2.2)) fW AW (r'.2.2) (r'.2.1) aW cells slots H locs ls hc1 hc2 hI2 hPD hS hl) H locs ls hPD hS hl
        · refine lv_swT (tgt := 219) (k := 1) hx hb dL_law_33 (ek.trans rfl) (by decide) (by decide) ?_
          obtain ⟨r, r', h_r, h_rm, he, hI2⟩ := K1 σf σA fW AW μf μA (xs (nI j + 1).toNatClampNeg) (xs (nI j + 2).toNatClampNeg) hI
          exact lc1_constable C0 hX hbl hcr (vin_add (k := 1) (by omega) hL rfl) rfl (vin_add (k := 2) (by omega) hL rfl) rfl h_r h_rm he (fun u g aB H locs ls hPD hS hl => (inc hj).2 h hM aM u g aB (cset σf 3 (r.2.2)) (cset σA 3 (r.2.1)) fW AW μf (r'.2) aW cells slots H locs ls hc1 hc2 hI2 hPD hS hl) H locs ls hPD hS hl
        · refine lv_swT (tgt := 252) (k := 2) hx hb dL_law_33 (ek.trans rfl) (by decide) (by decide) ?_
          obtain ⟨r, r', h_r, h_rm, he, hI2⟩ := K2 σf σA fW AW μf μA (xs (nI j + 1).toNatClampNeg) (xs (nI j + 2).toNatClampNeg) (xs (nI j + 3).toNatClampNeg) (xs (nI j + 4).toNatClampNeg) (xs (nI j + 5).toNatClampNeg) hI
          exact lc1_feed C0 hX hbl hcr (vin_add (k := 1) (by omega) hL rfl) rfl (vin_add (k := 2) (by omega) hL rfl) rfl (vin_add (k := 3) (by omega) hL rfl) rfl (vin_add (k := 4) (by omega) hL rfl) rfl (vin_add (k := 5) (by omega) hL rfl) rfl h_r h_rm he (fun u g aB H locs ls hPD hS hl => (inc hj).2 h hM aM u g aB (cset σf 1 (r.2.2)) (cset σA 1 (r.2.1)) fW AW (r'.2.2) (r'.2.1) aW cells slots H locs ls hc1 hc2 hI2 hPD hS hl) H locs ls hPD hS hl
        · refine lv_swT (tgt := 315) (k := 3) hx hb dL_law_33 (ek.trans rfl) (by decide) (by decide) ?_
          obtain ⟨r, r', h_r, h_rm, he, hI2⟩ := K3 σf σA fW AW μf μA (xs (nI j + 1).toNatClampNeg) hI
          exact lc1_law C0 hX hbl hcr (vin_add (k := 1) (by omega) hL rfl) rfl h_r h_rm he (fun u g aB H locs ls hPD hS hl => (inc hj).2 h hM aM u g aB (cset (cset (cset σf 1 (r.2.1)) 10 (r.2.2.2.1)) 11 (r.2.2.2.2.2)) (cset (cset σA 10 (r.2.2.1)) 11 (r.2.2.2.2.1)) fW AW (r'.2.2) (r'.2.1) aW cells slots H locs ls hc1 hc2 hI2 hPD hS hl) H locs ls hPD hS hl
        · refine lv_swT (tgt := 338) (k := 4) hx hb dL_law_33 (ek.trans rfl) (by decide) (by decide) ?_
          obtain ⟨r, r', h_r, h_rm, he, hI2⟩ := K4 σf σA fW AW μf μA (xs (nI j + 1).toNatClampNeg) (xs (nI j + 2).toNatClampNeg) hI
          exact lc1_beat C0 hX hbl hcr (vin_add (k := 1) (by omega) hL rfl) rfl (vin_add (k := 2) (by omega) hL rfl) rfl h_r h_rm he (fun u g aB H locs ls hPD hS hl => (inc hj).2 h hM aM u g aB (cset (cset σf 1 (r.2.1)) 9 (r.2.2.2.2.2)) (cset σA 9 (r.2.2.2.2.1)) (r.2.2.2.1) (r.2.2.1) (r'.2.2) (r'.2.1) aW cells slots H locs ls hc1 hc2 hI2 hPD hS hl) H locs ls hPD hS hl
        · refine lv_swT (tgt := 371) (k := 5) hx hb dL_law_33 (ek.trans rfl) (by decide) (by decide) ?_
          obtain ⟨r, r', h_r, h_rm, he, hI2⟩ := K5 σf σA fW AW μf μA (xs (nI j + 1).toNatClampNeg) hI
          exact lc1_pleas C0 hX hbl hcr (vin_add (k := 1) (by omega) hL rfl) rfl h_r h_rm he (fun u g aB H locs ls hPD hS hl => (inc hj).2 h hM aM u g aB (cset (cset σf 1 (r.2.1)) 7 (r.2.2.2.2.2)) (cset (cset (cset σA 2 (r.2.2.1)) 3 (r.2.2.2.1)) 7 (r.2.2.2.2.1)) fW AW (r'.2.2) (r'.2.1) aW cells slots H locs ls hc1 hc2 hI2 hPD hS hl) H locs ls hPD hS hl
        · refine lv_swT (tgt := 394) (k := 6) hx hb dL_law_33 (ek.trans rfl) (by decide) (by decide) ?_
          obtain ⟨r, r', h_r, h_rm, he, hI2⟩ := K6 σf σA fW AW μf μA (xs (nI j + 1).toNatClampNeg) hI
          exact lc1_hours C0 hX hbl hcr (vin_add (k := 1) (by omega) hL rfl) rfl h_r h_rm he (fun u g aB H locs ls hPD hS hl => (inc hj).2 h hM aM u g aB (cset (cset (cset σf 3 (r.2.2.1)) 6 (r.2.2.2.2.1)) 10 (r.2.2.2.2.2.2)) (cset (cset (cset σA 3 (r.2.1)) 6 (r.2.2.2.1)) 10 (r.2.2.2.2.2.1)) fW AW (r'.2.2) (r'.2.1) aW cells slots H locs ls hc1 hc2 hI2 hPD hS hl) H locs ls hPD hS hl
        · refine lv_swT (tgt := 417) (k := 7) hx hb dL_law_33 (ek.trans rfl) (by decide) (by decide) ?_
          obtain ⟨r, r', h_r, h_rm, he, hI2⟩ := K7 σf σA fW AW μf μA (xs (nI j + 1).toNatClampNeg) (xs (nI j + 2).toNatClampNeg) hI
          exact lc1_tried C0 hX hbl hcr (vin_add (k := 1) (by omega) hL rfl) rfl (vin_add (k := 2) (by omega) hL rfl) rfl h_r h_rm he (fun u g aB H locs ls hPD hS hl => (inc hj).2 h hM aM u g aB (cset (cset (cset σf 4 (r.2.2.1)) 6 (r.2.2.2.2.1)) 10 (r.2.2.2.2.2.2)) (cset (cset (cset σA 4 (r.2.1)) 6 (r.2.2.2.1)) 10 (r.2.2.2.2.2.1)) fW AW (r'.2.2) (r'.2.1) aW cells slots H locs ls hc1 hc2 hI2 hPD hS hl) H locs ls hPD hS hl
        · refine lv_swT (tgt := 450) (k := 8) hx hb dL_law_33 (ek.trans rfl) (by decide) (by decide) ?_
          obtain ⟨r, r', h_r, h_rm, he, hI2⟩ := K8 σf σA fW AW μf μA (xs (nI j + 1).toNatClampNeg) (xs (nI j + 2).toNatClampNeg) hI
          exact lc1_placeIs C0 hX hbl hcr (vin_add (k := 1) (by omega) hL rfl) rfl (vin_add (k := 2) (by omega) hL rfl) rfl h_r h_rm he (fun u g aB H locs ls hPD hS hl => (inc hj).2 h hM aM u g aB σf σA fW AW μf μA aW cells slots H locs ls hc1 hc2 hI2 hPD hS hl) H locs ls hPD hS hl
        · refine lv_swT (tgt := 483) (k := 9) hx hb dL_law_33 (ek.trans rfl) (by decide) (by decide) ?_
          obtain ⟨r, r', h_r, h_rm, he, hI2⟩ := K9 σf σA fW AW μf μA (xs (nI j + 1).toNatClampNeg) (xs (nI j + 2).toNatClampNeg) hI
          exact lc1_constableIs C0 hX hbl hcr (vin_add (k := 1) (by omega) hL rfl) rfl (vin_add (k := 2) (by omega) hL rfl) rfl h_r h_rm he (fun u g aB H locs ls hPD hS hl => (inc hj).2 h hM aM u g aB σf σA fW AW μf μA aW cells slots H locs ls hc1 hc2 hI2 hPD hS hl) H locs ls hPD hS hl
        · refine lv_swT (tgt := 516) (k := 10) hx hb dL_law_33 (ek.trans rfl) (by decide) (by decide) ?_
          obtain ⟨r, r', h_r, h_rm, he, hI2⟩ := K10 σf σA fW AW μf μA (xs (nI j + 1).toNatClampNeg) (xs (nI j + 2).toNatClampNeg) hI
          exact lc1_alone C0 hX hbl hcr (vin_add (k := 1) (by omega) hL rfl) rfl (vin_add (k := 2) (by omega) hL rfl) rfl h_r h_rm he (fun u g aB H locs ls hPD hS hl => (inc hj).2 h hM aM u g aB (cset (cset (cset σf 4 (r.2.2.1)) 6 (r.2.2.2.2.1)) 10 (r.2.2.2.2.2.2)) (cset (cset (cset σA 4 (r.2.1)) 6 (r.2.2.2.1)) 10 (r.2.2.2.2.2.1)) fW AW (r'.2.2) (r'.2.1) aW cells slots H locs ls hc1 hc2 hI2 hPD hS hl) H locs ls hPD hS hl
        · refine lv_swT (tgt := 549) (k := 11) hx hb dL_law_33 (ek.trans rfl) (by decide) (by decide) ?_
          obtain ⟨r, r', h_r, h_rm, he, hI2⟩ := K11 σf σA fW AW μf μA (xs (nI j + 1).toNatClampNeg) (xs (nI j + 2).toNatClampNeg) (xs (nI j + 3).toNatClampNeg) hI
          exact lc1_together C0 hX hbl hcr (vin_add (k := 1) (by omega) hL rfl) rfl (vin_add (k := 2) (by omega) hL rfl) rfl (vin_add (k := 3) (by omega) hL rfl) rfl h_r h_rm he (fun u g aB H locs ls hPD hS hl => (inc hj).2 h hM aM u g aB (cset (cset (cset σf 4 (r.2.2.1)) 6 (r.2.2.2.2.1)) 10 (r.2.2.2.2.2.2)) (cset (cset (cset σA 4 (r.2.1)) 6 (r.2.2.2.1)) 10 (r.2.2.2.2.2.1)) fW AW (r'.2.2) (r'.2.1) aW cells slots H locs ls hc1 hc2 hI2 hPD hS hl) H locs ls hPD hS hl
        · refine lv_swT (tgt := 592) (k := 12) hx hb dL_law_33 (ek.trans rfl) (by decide) (by decide) ?_
          obtain ⟨r, r', h_r, h_rm, he, hI2⟩ := K12 σf σA fW AW μf μA (xs (nI j + 1).toNatClampNeg) hI
          exact lc1_seen C0 hX hbl hcr (vin_add (k := 1) (by omega) hL rfl) rfl h_r h_rm he (fun u g aB H locs ls hPD hS hl => (inc hj).2 h hM aM u g aB (cset (cset (cset σf 4 (r.2.2.1)) 6 (r.2.2.2.2.1)) 10 (r.2.2.2.2.2.2)) (cset (cset (cset σA 4 (r.2.1)) 6 (r.2.2.2.1)) 10 (r.2.2.2.2.2.1)) fW AW (r'.2.2) (r'.2.1) aW cells slots H locs ls hc1 hc2 hI2 hPD hS hl) H locs ls hPD hS hl
        · refine lv_swT (tgt := 615) (k := 13) hx hb dL_law_33 (ek.trans rfl) (by decide) (by decide) ?_
          obtain ⟨r, r', h_r, h_rm, he, hI2⟩ := K13 σf σA fW AW μf μA (xs (nI j + 1).toNatClampNeg) hI
          exact lc1_quiet C0 hX hbl hcr (vin_add (k := 1) (by omega) hL rfl) rfl h_r h_rm he (fun u g aB H locs ls hPD hS hl => (inc hj).2 h hM aM u g aB (cset (cset (cset σf 4 (r.2.2.1)) 6 (r.2.2.2.2.1)) 10 (r.2.2.2.2.2.2)) (cset (cset (cset σA 4 (r.2.1)) 6 (r.2.2.2.1)) 10 (r.2.2.2.2.2.1)) fW AW (r'.2.2) (r'.2.1) aW cells slots H locs ls hc1 hc2 hI2 hPD hS hl) H locs ls hPD hS hl
        · refine lv_swT (tgt := 638) (k := 14) hx hb dL_law_33 (ek.trans rfl) (by decide) (by decide) ?_
          obtain ⟨r, r', h_r, h_rm, he, hI2⟩ := K14 σf σA fW AW μf μA (xs (nI j + 1).toNatClampNeg) (xs (nI j + 2).toNatClampNeg) hI
          exact lc1_ways C0 hX hbl hcr (vin_add (k := 1) (by omega) hL rfl) rfl (vin_add (k := 2) (by omega) hL rfl) rfl h_r h_rm he (fun u g aB H locs ls hPD hS hl => (inc hj).2 h hM aM u g aB σf (cset σA 2 (r.2)) fW AW μf (r'.2) aW cells slots H locs ls hc1 hc2 hI2 hPD hS hl) H locs ls hPD hS hl
        · refine lv_swT (tgt := 671) (k := 15) hx hb dL_law_33 (ek.trans rfl) (by decide) (by decide) ?_
          obtain ⟨r, r', h_r, h_rm, he, hI2⟩ := K15 σf σA fW AW μf μA  hI
          exact lc1_worst C0 hX hbl hcr  h_r h_rm he (fun u g aB H locs ls hPD hS hl => (inc hj).2 h hM aM u g aB σf σA fW AW μf μA aW cells slots H locs ls hc1 hc2 hI2 hPD hS hl) H locs ls hPD hS hl
        · refine lv_swT (tgt := 684) (k := 16) hx hb dL_law_33 (ek.trans rfl) (by decide) (by decide) ?_
          obtain ⟨r, r', h_r, h_rm, he, hI2⟩ := K16 σf σA fW AW μf μA (xs (nI j + 1).toNatClampNeg) hI
          exact lc1_posts C0 hX hbl hcr (vin_add (k := 1) (by omega) hL rfl) rfl h_r h_rm he (fun u g aB H locs ls hPD hS hl => (inc hj).2 h hM aM u g aB σf σA fW AW μf μA aW cells slots H locs ls hc1 hc2 hI2 hPD hS hl) H locs ls hPD hS hl
        · refine lv_swT (tgt := 707) (k := 17) hx hb dL_law_33 (ek.trans rfl) (by decide) (by decide) ?_
          obtain ⟨r, r', h_r, h_rm, he, hI2⟩ := K17 σf σA fW AW μf μA (xs (nI j + 1).toNatClampNeg) (xs (nI j + 2).toNatClampNeg) (xs (nI j + 3).toNatClampNeg) hI
          exact lc1_round C0 hX hbl hcr (vin_add (k := 1) (by omega) hL rfl) rfl (vin_add (k := 2) (by omega) hL rfl) rfl (vin_add (k := 3) (by omega) hL rfl) rfl h_r h_rm he (fun u g aB H locs ls hPD hS hl => (inc hj).2 h hM aM u g aB (cset σf 12 (r.2.2)) (cset σA 12 (r.2.1)) fW AW μf (r'.2) aW cells slots H locs ls hc1 hc2 hI2 hPD hS hl) H locs ls hPD hS hl
        · refine lv_swT (tgt := 750) (k := 18) hx hb dL_law_33 (ek.trans rfl) (by decide) (by decide) ?_
          obtain ⟨r, r', h_r, h_rm, he, hI2⟩ := K18 σf σA fW AW μf μA (xs (nI j + 1).toNatClampNeg) hI
          exact lc1_lanes C0 hX hbl hcr (vin_add (k := 1) (by omega) hL rfl) rfl h_r h_rm he (fun u g aB H locs ls hPD hS hl => (inc hj).2 h hM aM u g aB σf (cset σA 2 (r.2)) fW AW μf (r'.2) aW cells slots H locs ls hc1 hc2 hI2 hPD hS hl) H locs ls hPD hS hl
        · refine lv_swT (tgt := 773) (k := 19) hx hb dL_law_33 (ek.trans rfl) (by decide) (by decide) ?_
          obtain ⟨r, r', h_r, h_rm, he, hI2⟩ := K19 σf σA fW AW μf μA (xs (nI j + 1).toNatClampNeg) hI
          exact lc1_watches C0 hX hbl hcr (vin_add (k := 1) (by omega) hL rfl) rfl h_r h_rm he (fun u g aB H locs ls hPD hS hl => (inc hj).2 h hM aM u g aB σf (cset σA 8 (r.2)) fW AW μf (r'.2) aW cells slots H locs ls hc1 hc2 hI2 hPD hS hl) H locs ls hPD hS hl
        · refine lv_swT (tgt := 796) (k := 20) hx hb dL_law_33 (ek.trans rfl) (by decide) (by decide) ?_
          obtain ⟨r, r', h_r, h_rm, he, hI2⟩ := K20 σf σA fW AW μf μA (xs (nI j + 1).toNatClampNeg) (xs (nI j + 2).toNatClampNeg) (xs (nI j + 3).toNatClampNeg) hI
          exact lc1_way C0 hX hbl hcr (vin_add (k := 1) (by omega) hL rfl) rfl (vin_add (k := 2) (by omega) hL rfl) rfl (vin_add (k := 3) (by omega) hL rfl) rfl h_r h_rm he (fun u g aB H locs ls hPD hS hl => (inc hj).2 h hM aM u g aB σf (cset σA 2 (r.2)) fW AW μf (r'.2) aW cells slots H locs ls hc1 hc2 hI2 hPD hS hl) H locs ls hPD hS hl
        · refine lv_swT (tgt := 839) (k := 21) hx hb dL_law_33 (ek.trans rfl) (by decide) (by decide) ?_
          obtain ⟨r, r', h_r, h_rm, he, hI2⟩ := K21 σf σA fW AW μf μA (xs (nI j + 1).toNatClampNeg) (xs (nI j + 2).toNatClampNeg) hI
          exact lc1_nearest C0 hX hbl hcr (vin_add (k := 1) (by omega) hL rfl) rfl (vin_add (k := 2) (by omega) hL rfl) rfl h_r h_rm he (fun u g aB H locs ls hPD hS hl => (inc hj).2 h hM aM u g aB σf (cset σA 2 (r.2)) fW AW μf (r'.2) aW cells slots H locs ls hc1 hc2 hI2 hPD hS hl) H locs ls hPD hS hl
        · refine lv_swT (tgt := 872) (k := 22) hx hb dL_law_33 (ek.trans rfl) (by decide) (by decide) ?_
          obtain ⟨r, r', h_r, h_rm, he, hI2⟩ := K22 σf σA fW AW μf μA (xs (nI j + 1).toNatClampNeg) (xs (nI j + 2).toNatClampNeg) (xs (nI j + 3).toNatClampNeg) hI
          exact lc1_alibis C0 hX hbl hcr (vin_add (k := 1) (by omega) hL rfl) rfl (vin_add (k := 2) (by omega) hL rfl) rfl (vin_add (k := 3) (by omega) hL rfl) rfl h_r h_rm he (fun u g aB H locs ls hPD hS hl => (inc hj).2 h hM aM u g aB (cset σf 1 (r.2.1)) (cset σA 2 (r.2.2)) fW AW (r'.2.2) (r'.2.1) aW cells slots H locs ls hc1 hc2 hI2 hPD hS hl) H locs ls hPD hS hl
        · refine lv_swT (tgt := 915) (k := 23) hx hb dL_law_33 (ek.trans rfl) (by decide) (by decide) ?_
          obtain ⟨r, r', h_r, h_rm, he, hI2⟩ := K23 σf σA fW AW μf μA (xs (nI j + 1).toNatClampNeg) (xs (nI j + 2).toNatClampNeg) (xs (nI j + 3).toNatClampNeg) hI
          exact lc1_bench C0 hX hbl hcr (vin_add (k := 1) (by omega) hL rfl) rfl (vin_add (k := 2) (by omega) hL rfl) rfl (vin_add (k := 3) (by omega) hL rfl) rfl h_r h_rm he (fun u g aB H locs ls hPD hS hl => (inc hj).2 h hM aM u g aB (cset σf 1 (r.2.2)) (cset σA 0 (r.2.1)) fW AW (r'.2.2) (r'.2.1) aW cells slots H locs ls hc1 hc2 hI2 hPD hS hl) H locs ls hPD hS hl
        · refine lv_swT (tgt := 958) (k := 24) hx hb dL_law_33 (ek.trans rfl) (by decide) (by decide) ?_
          obtain ⟨r, r', h_r, h_rm, he, hI2⟩ := K24 σf σA fW AW μf μA (xs (nI j + 1).toNatClampNeg) (xs (nI j + 2).toNatClampNeg) hI
          exact lc1_likely C0 hX hbl hcr (vin_add (k := 1) (by omega) hL rfl) rfl (vin_add (k := 2) (by omega) hL rfl) rfl h_r h_rm he (fun u g aB H locs ls hPD hS hl => (inc hj).2 h hM aM u g aB (cset σf 1 (r.2)) σA fW AW (r'.2) μA aW cells slots H locs ls hc1 hc2 hI2 hPD hS hl) H locs ls hPD hS hl
        · refine lv_swT (tgt := 991) (k := 25) hx hb dL_law_33 (ek.trans rfl) (by decide) (by decide) ?_
          obtain ⟨r, r', h_r, h_rm, he, hI2⟩ := K25 σf σA fW AW μf μA (xs (nI j + 1).toNatClampNeg) (xs (nI j + 2).toNatClampNeg) hI
          exact lc1_share C0 hX hbl hcr (vin_add (k := 1) (by omega) hL rfl) rfl (vin_add (k := 2) (by omega) hL rfl) rfl h_r h_rm he (fun u g aB H locs ls hPD hS hl => (inc hj).2 h hM aM u g aB (cset σf 1 (r.2)) σA fW AW (r'.2) μA aW cells slots H locs ls hc1 hc2 hI2 hPD hS hl) H locs ls hPD hS hl
        · refine lv_swT (tgt := 1024) (k := 26) hx hb dL_law_33 (ek.trans rfl) (by decide) (by decide) ?_
          obtain ⟨r, r', h_r, h_rm, he, hI2⟩ := K26 σf σA fW AW μf μA (xs (nI j + 1).toNatClampNeg) (xs (nI j + 2).toNatClampNeg) hI
          exact lc1_odds C0 hX hbl hcr (vin_add (k := 1) (by omega) hL rfl) rfl (vin_add (k := 2) (by omega) hL rfl) rfl h_r h_rm he (fun u g aB H locs ls hPD hS hl => (inc hj).2 h hM aM u g aB (cset σf 1 (r.2)) σA fW AW (r'.2) μA aW cells slots H locs ls hc1 hc2 hI2 hPD hS hl) H locs ls hPD hS hl
        · refine lv_swT (tgt := 1057) (k := 27) hx hb dL_law_33 (ek.trans rfl) (by decide) (by decide) ?_
          obtain ⟨r, r', h_r, h_rm, he, hI2⟩ := K27 σf σA fW AW μf μA (xs (nI j + 1).toNatClampNeg) hI
          exact lc1_seed C0 hX hbl hcr (vin_add (k := 1) (by omega) hL rfl) rfl h_r h_rm he (fun u g aB H locs ls hPD hS hl => (inc hj).2 h hM aM u g aB (cset σf 3 (r.2)) σA fW AW μf (r'.2) aW cells slots H locs ls hc1 hc2 hI2 hPD hS hl) H locs ls hPD hS hl
        · refine lv_swT (tgt := 1080) (k := 28) hx hb dL_law_33 (ek.trans rfl) (by decide) (by decide) ?_
          obtain ⟨r, r', h_r, h_rm, he, hI2⟩ := K28 σf σA fW AW μf μA  hI
          exact lc1_keep C0 hX hbl hcr  h_r h_rm he (fun u g aB H locs ls hPD hS hl => (inc hj).2 h hM aM u g aB (cset (cset σf 0 (r.2.1)) 5 (r.2.2.2)) (cset σA 5 (r.2.2.1)) fW AW (r'.2.2) (r'.2.1) aW cells slots H locs ls hc1 hc2 hI2 hPD hS hl) H locs ls hPD hS hl
        · refine lv_swT (tgt := 1093) (k := 29) hx hb dL_law_33 (ek.trans rfl) (by decide) (by decide) ?_
          obtain ⟨r, r', h_r, h_rm, he, hI2⟩ := K29 σf σA fW AW μf μA  hI
          exact lc1_undo C0 hX hbl hcr  h_r h_rm he (fun u g aB H locs ls hPD hS hl => (inc hj).2 h hM aM u g aB (cset σf 3 (r.2.2)) (cset σA 3 (r.2.1)) fW AW μf (r'.2) aW cells slots H locs ls hc1 hc2 hI2 hPD hS hl) H locs ls hPD hS hl
        · refine lv_swT (tgt := 1106) (k := 30) hx hb dL_law_33 (ek.trans rfl) (by decide) (by decide) ?_
          obtain ⟨r, r', h_r, h_rm, he, hI2⟩ := K30 σf σA fW AW μf μA (xs (nI j + 1).toNatClampNeg) hI
          exact lc1_check C0 hX hbl hcr (vin_add (k := 1) (by omega) hL rfl) rfl h_r h_rm he (fun u g aB H locs ls hPD hS hl => (inc hj).2 h hM aM u g aB (cset σf 1 (r.2)) σA fW AW (r'.2) μA aW cells slots H locs ls hc1 hc2 hI2 hPD hS hl) H locs ls hPD hS hl
        · refine lv_swT (tgt := 1129) (k := 31) hx hb dL_law_33 (ek.trans rfl) (by decide) (by decide) ?_
          obtain ⟨r, r', h_r, h_rm, he, hI2⟩ := K31 σf σA fW AW μf μA (xs (nI j + 1).toNatClampNeg) hI
          exact lc1_count C0 hX hbl hcr (vin_add (k := 1) (by omega) hL rfl) rfl h_r h_rm he (fun u g aB H locs ls hPD hS hl => (inc hj).2 h hM aM u g aB σf σA fW AW μf μA aW cells slots H locs ls hc1 hc2 hI2 hPD hS hl) H locs ls hPD hS hl
end LL
