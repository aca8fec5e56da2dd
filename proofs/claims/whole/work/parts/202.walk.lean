section WALK
variable {p : Program} {l : Launch} {e : Env} {s : State} {m : MethodId} {args : Array Value} {below : List Frame} {meth : Method} {c : Code} {G : Gp} {DA : Nat → Prop}
abbrev rmX9_has : Room := { frames := 1, cells := 0, slots := 0, locals := 22 }
set_option maxRecDepth 100000 in
set_option maxHeartbeats 4000000 in
theorem kt_X9_has (l : Launch) (G : Gp) (p0 : Int32) (p1 : Int32) : CtrI l yX9_has cX9_has 2 (some .boolean) rmX9_has G [.int p0, .int p1] ([] : va_W) (f9_has p0 p1) ([] : va_W) := by
  obtain ⟨res, h⟩ : ∃ res, f9_has p0 p1 = res := ⟨_, rfl⟩
  rw [h]
  refine ctrI_of (cc := cX9_has) (maxL := 2) (ret := (some .boolean)) (by decide +kernel) rfl (Nat.le_of_ble_eq_true rfl) (fun p e s m below meth c DA C0 hP hD ls hl => ?_)
  have hPD : WD G DA ([] : va_W) s.heap := ⟨hP, hD⟩
  have hS : va_S DA s.heap s.heap [] := va_S.rf
  have hl : lv_has ls 2 [(0, .int p0), (1, .int p1)] := hl
  obtain ⟨hx, hb, hml, hown, hts⟩ := C0.1
  have hK := C0.2.2.2.1
  unfold f9_has at h
  refine lv_iload_n hx hb dX9_has_0 rfl (lv_at hl 1 rfl) ?_
  refine lv_iconst (v := 0) hx hb dX9_has_1 (by decide) ?_
  refine lv_bipush (v := 31) hx hb dX9_has_2 (by decide) ?_
  refine kSI (As := [.int p1, .int 0, .int 31]) (rest := []) C0 (kt_X9_within l G  p1 0 31) gi_S_X9_90_X9_within (n := 3) rfl (by decide +kernel) ⟨rfl, rfl, Nat.le_of_ble_eq_true rfl, Nat.le_of_ble_eq_true rfl⟩ hPD hS [] [] [] (wr := ([] : va_W)) (wN := ([] : va_W)) rfl rfl rfl rfl rfl hl.1 (Nat.le_of_ble_eq_true rfl) dX9_has_4 (fun H locs hPD hS => ?_)
  refine lv_if_eq (tgt := 23) hx hb dX9_has_7 (by decide) (fun cc1 => ?_) (fun cc1 => ?_)
  · have h := (if_pos cc1).symm.trans h
    refine lv_iconst (v := 0) hx hb dX9_has_23 (by decide) ?_
    subst h
    exact eZ C0 hPD.1 hPD.2 hS rfl rfl dX9_has_24
  · have h := (if_neg cc1).symm.trans h
    refine lv_iload_n hx hb dX9_has_10 rfl (lv_at hl 0 rfl) ?_
    refine lv_iload_n hx hb dX9_has_11 rfl (lv_at hl 1 rfl) ?_
    refine lv_iushr (v := ushr p0 p1) hx hb dX9_has_12 rfl ?_
    refine lv_iconst (v := 1) hx hb dX9_has_13 (by decide) ?_
    refine lv_iand hx hb dX9_has_14 ?_
    refine lv_iconst (v := 1) hx hb dX9_has_15 (by decide) ?_
    refine lv_icmp_ne (tgt := 23) hx hb dX9_has_16 (by decide) (fun cc1 => ?_) (fun cc1 => ?_)
    · have h := (if_neg cc1).symm.trans h
      refine lv_iconst (v := 0) hx hb dX9_has_23 (by decide) ?_
      subst h
      exact eZ C0 hPD.1 hPD.2 hS rfl rfl dX9_has_24
    · have h := (if_pos cc1).symm.trans h
      refine lv_iconst (v := 1) hx hb dX9_has_19 (by decide) ?_
      refine lv_goto (tgt := 24) hx hb dX9_has_20 (by decide) ?_
      subst h
      exact eZ C0 hPD.1 hPD.2 hS rfl rfl dX9_has_24
abbrev rmX1_isTold : Room := { frames := 2, cells := 0, slots := 0, locals := 43 }
set_option maxRecDepth 100000 in
set_option maxHeartbeats 4000000 in
theorem kt_X1_isTold (l : Launch) (G : Gp) (h0 : Nat) (a0 : Nat → Nat) (f0 : Nat → Int32) (A0 : Nat → Nat → Int32) (p1 : Int32) : CtrI l yX1_isTold cX1_isTold 2 (some .boolean) rmX1_isTold G [.ref h0, .int p1] (wX1 G h0 a0 f0 A0) (f1_isTold f0 A0 p1) (wX1 G h0 a0 f0 A0) := by
  obtain ⟨res, h⟩ : ∃ res, f1_isTold f0 A0 p1 = res := ⟨_, rfl⟩
  rw [h]
  refine ctrI_of (cc := cX1_isTold) (maxL := 2) (ret := (some .boolean)) (by decide +kernel) rfl (Nat.le_of_ble_eq_true rfl) (fun p e s m below meth c DA C0 hP hD ls hl => ?_)
  have hPD : WD G DA (wX1 G h0 a0 f0 A0) s.heap := ⟨hP, hD⟩
  have hS : va_S DA s.heap s.heap [] := va_S.rf
  have hl : lv_has ls 2 [(0, .ref h0), (1, .int p1)] := hl
  obtain ⟨hx, hb, hml, hown, hts⟩ := C0.1
  have hK := C0.2.2.2.1
  unfold f1_isTold at h
  refine lv_iload_n hx hb dX1_isTold_0 rfl (lv_at hl 1 rfl) ?_
  refine lv_iconst (v := 0) hx hb dX1_isTold_1 (by decide) ?_
  refine lv_bipush (v := 15) hx hb dX1_isTold_2 (by decide) ?_
  refine kNI (As := [.int p1, .int 0, .int 15]) (rest := []) C0 (kt_X9_within l G  p1 0 15) gi_U_X9_within (host := "IdleCrimes") (index := 25) (List.mem_of_getElem? (i := 8) rfl) gw_6 gw_25 (n := 3) rfl (by decide +kernel) ⟨rfl, rfl, Nat.le_of_ble_eq_true rfl, Nat.le_of_ble_eq_true rfl⟩ hPD hS [] [0, 1, 2, 3] [0, 1, 2, 3] (wr := (wX1 G h0 a0 f0 A0)) (wN := (wX1 G h0 a0 f0 A0)) rfl rfl rfl rfl rfl hl.1 (Nat.le_of_ble_eq_true rfl) dX1_isTold_4 (fun H locs hPD hS => ?_)
  refine lv_if_eq (tgt := 25) hx hb dX1_isTold_7 (by decide) (fun cc1 => ?_) (fun cc1 => ?_)
  · have h := (if_pos cc1).symm.trans h
    refine lv_iconst (v := 0) hx hb dX1_isTold_25 (by decide) ?_
    subst h
    exact eZ C0 hPD.1 hPD.2 hS rfl rfl dX1_isTold_26
  · have h := (if_neg cc1).symm.trans h
    refine lv_aload_n hx hb dX1_isTold_10 rfl (lv_at hl 0 rfl) ?_
    refine va_get (D := G.1) (ci := 1) (v := .int (f0 0)) (C := RX1) (T := TX1) (N := 4) hx hb hts inlX1 hown hK hPD.1 0 rfl rfl 0 (by decide) (hts _ gw_73) (fun _ h9 => h9) rfl dX1_isTold_11 ?_
    refine lv_iload_n hx hb dX1_isTold_14 rfl (lv_at hl 1 rfl) ?_
    refine kNI (As := [.int (f0 0), .int p1]) (rest := []) C0 (kt_X9_has l G  (f0 0) p1) gi_U_X9_has (host := "IdleCrimes") (index := 29) (List.mem_of_getElem? (i := 9) rfl) gw_6 gw_74 (n := 2) rfl (by decide +kernel) ⟨rfl, rfl, Nat.le_of_ble_eq_true rfl, Nat.le_of_ble_eq_true rfl⟩ hPD hS [] [0, 1, 2, 3] [0, 1, 2, 3] (wr := (wX1 G h0 a0 f0 A0)) (wN := (wX1 G h0 a0 f0 A0)) rfl rfl rfl rfl rfl hl.1 (Nat.le_of_ble_eq_true rfl) dX1_isTold_15 (fun H locs hPD hS => ?_)
    refine lv_if_eq (tgt := 25) hx hb dX1_isTold_18 (by decide) (fun cc1 => ?_) (fun cc1 => ?_)
    · have h := (if_pos cc1).symm.trans h
      refine lv_iconst (v := 0) hx hb dX1_isTold_25 (by decide) ?_
      subst h
      exact eZ C0 hPD.1 hPD.2 hS rfl rfl dX1_isTold_26
    · have h := (if_neg cc1).symm.trans h
      refine lv_iconst (v := 1) hx hb dX1_isTold_21 (by decide) ?_
      refine lv_goto (tgt := 26) hx hb dX1_isTold_22 (by decide) ?_
      subst h
      exact eZ C0 hPD.1 hPD.2 hS rfl rfl dX1_isTold_26
abbrev rmX1_join : Room := { frames := 1, cells := 0, slots := 0, locals := 22 }
set_option maxRecDepth 100000 in
set_option maxHeartbeats 4000000 in
theorem kt_X1_join (l : Launch) (G : Gp) (h0 : Nat) (a0 : Nat → Nat) (f0 : Nat → Int32) (A0 : Nat → Nat → Int32) (p1 : Int32) (p2 : Int32) : CtrV l yX1_join cX1_join 3 none rmX1_join G [.ref h0, .int p1, .int p2] (wX1 G h0 a0 f0 A0) (wX1 G h0 a0 f0 (f1_join f0 A0 p1 p2)) := by
  obtain ⟨res, h⟩ : ∃ res, f1_join f0 A0 p1 p2 = res := ⟨_, rfl⟩
  rw [h]
  refine ctrV_of (cc := cX1_join) (maxL := 3) (ret := none) (by decide +kernel) rfl (Nat.le_of_ble_eq_true rfl) (fun p e s m below meth c DA C0 hP hD ls hl => ?_)
  have hPD : WD G DA (wX1 G h0 a0 f0 A0) s.heap := ⟨hP, hD⟩
  have hS : va_S DA s.heap s.heap [] := va_S.rf
  have hl : lv_has ls 3 [(0, .ref h0), (1, .int p1), (2, .int p2)] := hl
  obtain ⟨hx, hb, hml, hown, hts⟩ := C0.1
  have hK := C0.2.2.2.1
  unfold f1_join at h
  refine lv_aload_n hx hb dX1_join_0 rfl (lv_at hl 0 rfl) ?_
  refine va_get (D := G.1) (ci := 1) (v := .ref (a0 1)) (C := RX1) (T := TX1) (N := 4) hx hb hts inlX1 hown hK hPD.1 0 rfl rfl 1 (by decide) (hts _ gw_76) (fun _ h9 => h9) rfl dX1_join_1 ?_
  refine lv_iload_n hx hb dX1_join_4 rfl (lv_at hl 1 rfl) ?_
  refine lv_aload_n hx hb dX1_join_5 rfl (lv_at hl 0 rfl) ?_
  refine va_get (D := G.1) (ci := 1) (v := .ref (a0 1)) (C := RX1) (T := TX1) (N := 4) hx hb hts inlX1 hown hK hPD.1 0 rfl rfl 1 (by decide) (hts _ gw_76) (fun _ h9 => h9) rfl dX1_join_6 ?_
  refine lv_iload_n hx hb dX1_join_9 rfl (lv_at hl 1 rfl) ?_
  refine kNI (As := [.ref (a0 1), .int p1]) (rest := [.int p1, .ref (a0 1)]) C0 (kt_X9_at l G (a0 1) 16 (A0 1) p1 (by decide)) gi_U_X9_at (host := "IdleCrimes") (index := 33) (List.mem_of_getElem? (i := 20) rfl) gw_6 gw_7 (n := 2) rfl (by decide +kernel) ⟨rfl, rfl, Nat.le_of_ble_eq_true rfl, Nat.le_of_ble_eq_true rfl⟩ hPD hS [1] [0, 2, 3] [0, 3, 1, 2] (wr := pick (wX1 G h0 a0 f0 A0) [0, 2, 3]) (wN := (wX1 G h0 a0 f0 A0)) rfl rfl rfl rfl rfl hl.1 (Nat.le_of_ble_eq_true rfl) dX1_join_10 (fun H locs hPD hS => ?_)
  refine lv_iconst (v := 1) hx hb dX1_join_13 (by decide) ?_
  refine lv_iload_n hx hb dX1_join_14 rfl (lv_at hl 2 rfl) ?_
  refine lv_ishl hx hb dX1_join_15 ?_
  refine lv_ior hx hb dX1_join_16 ?_
  obtain ⟨z_1, ez_1, h⟩ := lvl h
  have kc := kt_X9_put l G (a0 1) 16 (A0 1) p1 ((f9_at 16 (A0 1) p1) ||| (shl 1 p2)) (by decide)
  rw [← ez_1] at kc
  clear ez_1
  refine kNV (As := [.ref (a0 1), .int p1, .int ((f9_at 16 (A0 1) p1) ||| (shl 1 p2))]) (rest := []) C0 (kc) gi_U_X9_put (host := "IdleCrimes") (index := 37) (List.mem_of_getElem? (i := 21) rfl) gw_6 gw_19 (n := 3) rfl (by decide +kernel) ⟨rfl, rfl, Nat.le_of_ble_eq_true rfl, Nat.le_of_ble_eq_true rfl⟩ hPD hS [1] [0, 2, 3] [0, 3, 1, 2] (wr := pick (wX1 G h0 a0 f0 A0) [0, 2, 3]) (wN := (wX1 G h0 a0 f0 (updA A0 1 z_1))) rfl rfl rfl rfl rfl hl.1 (Nat.le_of_ble_eq_true rfl) dX1_join_17 (fun H locs hPD hS => ?_)
  obtain ⟨A0_2, eA0_2, h⟩ := lvl h
  have hPD : WD G DA (wX1 G h0 a0 f0 A0_2) H := by rw [eA0_2]; exact hPD
  clear eA0_2
  refine lv_aload_n hx hb dX1_join_20 rfl (lv_at hl 0 rfl) ?_
  refine va_get (D := G.1) (ci := 1) (v := .ref (a0 1)) (C := RX1) (T := TX1) (N := 4) hx hb hts inlX1 hown hK hPD.1 0 rfl rfl 1 (by decide) (hts _ gw_76) (fun _ h9 => h9) rfl dX1_join_21 ?_
  refine lv_iload_n hx hb dX1_join_24 rfl (lv_at hl 2 rfl) ?_
  refine lv_aload_n hx hb dX1_join_25 rfl (lv_at hl 0 rfl) ?_
  refine va_get (D := G.1) (ci := 1) (v := .ref (a0 1)) (C := RX1) (T := TX1) (N := 4) hx hb hts inlX1 hown hK hPD.1 0 rfl rfl 1 (by decide) (hts _ gw_76) (fun _ h9 => h9) rfl dX1_join_26 ?_
  refine lv_iload_n hx hb dX1_join_29 rfl (lv_at hl 2 rfl) ?_
  refine kNI (As := [.ref (a0 1), .int p2]) (rest := [.int p2, .ref (a0 1)]) C0 (kt_X9_at l G (a0 1) 16 (A0_2 1) p2 (by decide)) gi_U_X9_at (host := "IdleCrimes") (index := 33) (List.mem_of_getElem? (i := 20) rfl) gw_6 gw_7 (n := 2) rfl (by decide +kernel) ⟨rfl, rfl, Nat.le_of_ble_eq_true rfl, Nat.le_of_ble_eq_true rfl⟩ hPD hS [1] [0, 2, 3] [0, 3, 1, 2] (wr := pick (wX1 G h0 a0 f0 A0_2) [0, 2, 3]) (wN := (wX1 G h0 a0 f0 A0_2)) rfl rfl rfl rfl rfl hl.1 (Nat.le_of_ble_eq_true rfl) dX1_join_30 (fun H locs hPD hS => ?_)
  refine lv_iconst (v := 1) hx hb dX1_join_33 (by decide) ?_
  refine lv_iload_n hx hb dX1_join_34 rfl (lv_at hl 1 rfl) ?_
  refine lv_ishl hx hb dX1_join_35 ?_
  refine lv_ior hx hb dX1_join_36 ?_
  obtain ⟨z_3, ez_3, h⟩ := lvl h
  have kc := kt_X9_put l G (a0 1) 16 (A0_2 1) p2 ((f9_at 16 (A0_2 1) p2) ||| (shl 1 p1)) (by decide)
  rw [← ez_3] at kc
  clear ez_3
  refine kNV (As := [.ref (a0 1), .int p2, .int ((f9_at 16 (A0_2 1) p2) ||| (shl 1 p1))]) (rest := []) C0 (kc) gi_U_X9_put (host := "IdleCrimes") (index := 37) (List.mem_of_getElem? (i := 21) rfl) gw_6 gw_19 (n := 3) rfl (by decide +kernel) ⟨rfl, rfl, Nat.le_of_ble_eq_true rfl, Nat.le_of_ble_eq_true rfl⟩ hPD hS [1] [0, 2, 3] [0, 3, 1, 2] (wr := pick (wX1 G h0 a0 f0 A0_2) [0, 2, 3]) (wN := (wX1 G h0 a0 f0 (updA A0_2 1 z_3))) rfl rfl rfl rfl rfl hl.1 (Nat.le_of_ble_eq_true rfl) dX1_join_37 (fun H locs hPD hS => ?_)
  obtain ⟨A0_4, eA0_4, h⟩ := lvl h
  have hPD : WD G DA (wX1 G h0 a0 f0 A0_4) H := by rw [eA0_4]; exact hPD
  clear eA0_4
  subst h
  exact eV C0 hPD.1 hPD.2 hS dX1_join_40
abbrev rmX1_part : Room := { frames := 1, cells := 0, slots := 0, locals := 22 }
set_option maxRecDepth 100000 in
set_option maxHeartbeats 4000000 in
theorem kt_X1_part (l : Launch) (G : Gp) (h0 : Nat) (a0 : Nat → Nat) (f0 : Nat → Int32) (A0 : Nat → Nat → Int32) (p1 : Int32) (p2 : Int32) : CtrV l yX1_part cX1_part 3 none rmX1_part G [.ref h0, .int p1, .int p2] (wX1 G h0 a0 f0 A0) (wX1 G h0 a0 f0 (f1_part f0 A0 p1 p2)) := by
  obtain ⟨res, h⟩ : ∃ res, f1_part f0 A0 p1 p2 = res := ⟨_, rfl⟩
  rw [h]
  refine ctrV_of (cc := cX1_part) (maxL := 3) (ret := none) (by decide +kernel) rfl (Nat.le_of_ble_eq_true rfl) (fun p e s m below meth c DA C0 hP hD ls hl => ?_)
  have hPD : WD G DA (wX1 G h0 a0 f0 A0) s.heap := ⟨hP, hD⟩
  have hS : va_S DA s.heap s.heap [] := va_S.rf
  have hl : lv_has ls 3 [(0, .ref h0), (1, .int p1), (2, .int p2)] := hl
  obtain ⟨hx, hb, hml, hown, hts⟩ := C0.1
  have hK := C0.2.2.2.1
  unfold f1_part at h
  refine lv_aload_n hx hb dX1_part_0 rfl (lv_at hl 0 rfl) ?_
  refine va_get (D := G.1) (ci := 1) (v := .ref (a0 1)) (C := RX1) (T := TX1) (N := 4) hx hb hts inlX1 hown hK hPD.1 0 rfl rfl 1 (by decide) (hts _ gw_76) (fun _ h9 => h9) rfl dX1_part_1 ?_
  refine lv_iload_n hx hb dX1_part_4 rfl (lv_at hl 1 rfl) ?_
  refine lv_aload_n hx hb dX1_part_5 rfl (lv_at hl 0 rfl) ?_
  refine va_get (D := G.1) (ci := 1) (v := .ref (a0 1)) (C := RX1) (T := TX1) (N := 4) hx hb hts inlX1 hown hK hPD.1 0 rfl rfl 1 (by decide) (hts _ gw_76) (fun _ h9 => h9) rfl dX1_part_6 ?_
  refine lv_iload_n hx hb dX1_part_9 rfl (lv_at hl 1 rfl) ?_
  refine kNI (As := [.ref (a0 1), .int p1]) (rest := [.int p1, .ref (a0 1)]) C0 (kt_X9_at l G (a0 1) 16 (A0 1) p1 (by decide)) gi_U_X9_at (host := "IdleCrimes") (index := 33) (List.mem_of_getElem? (i := 20) rfl) gw_6 gw_7 (n := 2) rfl (by decide +kernel) ⟨rfl, rfl, Nat.le_of_ble_eq_true rfl, Nat.le_of_ble_eq_true rfl⟩ hPD hS [1] [0, 2, 3] [0, 3, 1, 2] (wr := pick (wX1 G h0 a0 f0 A0) [0, 2, 3]) (wN := (wX1 G h0 a0 f0 A0)) rfl rfl rfl rfl rfl hl.1 (Nat.le_of_ble_eq_true rfl) dX1_part_10 (fun H locs hPD hS => ?_)
  refine lv_iconst (v := 1) hx hb dX1_part_13 (by decide) ?_
  refine lv_iload_n hx hb dX1_part_14 rfl (lv_at hl 2 rfl) ?_
  refine lv_ishl hx hb dX1_part_15 ?_
  refine lv_iconst (v := (-1)) hx hb dX1_part_16 (by decide) ?_
  refine lv_ixor hx hb dX1_part_17 ?_
  refine lv_iand hx hb dX1_part_18 ?_
  obtain ⟨z_1, ez_1, h⟩ := lvl h
  have kc := kt_X9_put l G (a0 1) 16 (A0 1) p1 ((f9_at 16 (A0 1) p1) &&& ((shl 1 p2) ^^^ (-1))) (by decide)
  rw [← ez_1] at kc
  clear ez_1
  refine kNV (As := [.ref (a0 1), .int p1, .int ((f9_at 16 (A0 1) p1) &&& ((shl 1 p2) ^^^ (-1)))]) (rest := []) C0 (kc) gi_U_X9_put (host := "IdleCrimes") (index := 37) (List.mem_of_getElem? (i := 21) rfl) gw_6 gw_19 (n := 3) rfl (by decide +kernel) ⟨rfl, rfl, Nat.le_of_ble_eq_true rfl, Nat.le_of_ble_eq_true rfl⟩ hPD hS [1] [0, 2, 3] [0, 3, 1, 2] (wr := pick (wX1 G h0 a0 f0 A0) [0, 2, 3]) (wN := (wX1 G h0 a0 f0 (updA A0 1 z_1))) rfl rfl rfl rfl rfl hl.1 (Nat.le_of_ble_eq_true rfl) dX1_part_19 (fun H locs hPD hS => ?_)
  obtain ⟨A0_2, eA0_2, h⟩ := lvl h
  have hPD : WD G DA (wX1 G h0 a0 f0 A0_2) H := by rw [eA0_2]; exact hPD
  clear eA0_2
  refine lv_aload_n hx hb dX1_part_22 rfl (lv_at hl 0 rfl) ?_
  refine va_get (D := G.1) (ci := 1) (v := .ref (a0 1)) (C := RX1) (T := TX1) (N := 4) hx hb hts inlX1 hown hK hPD.1 0 rfl rfl 1 (by decide) (hts _ gw_76) (fun _ h9 => h9) rfl dX1_part_23 ?_
  refine lv_iload_n hx hb dX1_part_26 rfl (lv_at hl 2 rfl) ?_
  refine lv_aload_n hx hb dX1_part_27 rfl (lv_at hl 0 rfl) ?_
  refine va_get (D := G.1) (ci := 1) (v := .ref (a0 1)) (C := RX1) (T := TX1) (N := 4) hx hb hts inlX1 hown hK hPD.1 0 rfl rfl 1 (by decide) (hts _ gw_76) (fun _ h9 => h9) rfl dX1_part_28 ?_
  refine lv_iload_n hx hb dX1_part_31 rfl (lv_at hl 2 rfl) ?_
  refine kNI (As := [.ref (a0 1), .int p2]) (rest := [.int p2, .ref (a0 1)]) C0 (kt_X9_at l G (a0 1) 16 (A0_2 1) p2 (by decide)) gi_U_X9_at (host := "IdleCrimes") (index := 33) (List.mem_of_getElem? (i := 20) rfl) gw_6 gw_7 (n := 2) rfl (by decide +kernel) ⟨rfl, rfl, Nat.le_of_ble_eq_true rfl, Nat.le_of_ble_eq_true rfl⟩ hPD hS [1] [0, 2, 3] [0, 3, 1, 2] (wr := pick (wX1 G h0 a0 f0 A0_2) [0, 2, 3]) (wN := (wX1 G h0 a0 f0 A0_2)) rfl rfl rfl rfl rfl hl.1 (Nat.le_of_ble_eq_true rfl) dX1_part_32 (fun H locs hPD hS => ?_)
  refine lv_iconst (v := 1) hx hb dX1_part_35 (by decide) ?_
  refine lv_iload_n hx hb dX1_part_36 rfl (lv_at hl 1 rfl) ?_
  refine lv_ishl hx hb dX1_part_37 ?_
  refine lv_iconst (v := (-1)) hx hb dX1_part_38 (by decide) ?_
  refine lv_ixor hx hb dX1_part_39 ?_
  refine lv_iand hx hb dX1_part_40 ?_
  obtain ⟨z_3, ez_3, h⟩ := lvl h
  have kc := kt_X9_put l G (a0 1) 16 (A0_2 1) p2 ((f9_at 16 (A0_2 1) p2) &&& ((shl 1 p1) ^^^ (-1))) (by decide)
  rw [← ez_3] at kc
  clear ez_3
  refine kNV (As := [.ref (a0 1), .int p2, .int ((f9_at 16 (A0_2 1) p2) &&& ((shl 1 p1) ^^^ (-1)))]) (rest := []) C0 (kc) gi_U_X9_put (host := "IdleCrimes") (index := 37) (List.mem_of_getElem? (i := 21) rfl) gw_6 gw_19 (n := 3) rfl (by decide +kernel) ⟨rfl, rfl, Nat.le_of_ble_eq_true rfl, Nat.le_of_ble_eq_true rfl⟩ hPD hS [1] [0, 2, 3] [0, 3, 1, 2] (wr := pick (wX1 G h0 a0 f0 A0_2) [0, 2, 3]) (wN := (wX1 G h0 a0 f0 (updA A0_2 1 z_3))) rfl rfl rfl rfl rfl hl.1 (Nat.le_of_ble_eq_true rfl) dX1_part_41 (fun H locs hPD hS => ?_)
  obtain ⟨A0_4, eA0_4, h⟩ := lvl h
  have hPD : WD G DA (wX1 G h0 a0 f0 A0_4) H := by rw [eA0_4]; exact hPD
  clear eA0_4
  subst h
  exact eV C0 hPD.1 hPD.2 hS dX1_part_44
abbrev rmX1_around : Room := { frames := 1, cells := 0, slots := 0, locals := 21 }
set_option maxRecDepth 100000 in
set_option maxHeartbeats 4000000 in
theorem kt_X1_around (l : Launch) (G : Gp) (h0 : Nat) (a0 : Nat → Nat) (f0 : Nat → Int32) (A0 : Nat → Nat → Int32) (p1 : Int32) : CtrI l yX1_around cX1_around 2 (some .int) rmX1_around G [.ref h0, .int p1] (wX1 G h0 a0 f0 A0) (f1_around f0 A0 p1) (wX1 G h0 a0 f0 A0) := by
  obtain ⟨res, h⟩ : ∃ res, f1_around f0 A0 p1 = res := ⟨_, rfl⟩
  rw [h]
  refine ctrI_of (cc := cX1_around) (maxL := 2) (ret := (some .int)) (by decide +kernel) rfl (Nat.le_of_ble_eq_true rfl) (fun p e s m below meth c DA C0 hP hD ls hl => ?_)
  have hPD : WD G DA (wX1 G h0 a0 f0 A0) s.heap := ⟨hP, hD⟩
  have hS : va_S DA s.heap s.heap [] := va_S.rf
  have hl : lv_has ls 2 [(0, .ref h0), (1, .int p1)] := hl
  obtain ⟨hx, hb, hml, hown, hts⟩ := C0.1
  have hK := C0.2.2.2.1
  unfold f1_around at h
  refine lv_aload_n hx hb dX1_around_0 rfl (lv_at hl 0 rfl) ?_
  refine va_get (D := G.1) (ci := 1) (v := .ref (a0 1)) (C := RX1) (T := TX1) (N := 4) hx hb hts inlX1 hown hK hPD.1 0 rfl rfl 1 (by decide) (hts _ gw_76) (fun _ h9 => h9) rfl dX1_around_1 ?_
  refine lv_iload_n hx hb dX1_around_4 rfl (lv_at hl 1 rfl) ?_
  refine kNI (As := [.ref (a0 1), .int p1]) (rest := []) C0 (kt_X9_at l G (a0 1) 16 (A0 1) p1 (by decide)) gi_U_X9_at (host := "IdleCrimes") (index := 33) (List.mem_of_getElem? (i := 20) rfl) gw_6 gw_7 (n := 2) rfl (by decide +kernel) ⟨rfl, rfl, Nat.le_of_ble_eq_true rfl, Nat.le_of_ble_eq_true rfl⟩ hPD hS [1] [0, 2, 3] [0, 3, 1, 2] (wr := pick (wX1 G h0 a0 f0 A0) [0, 2, 3]) (wN := (wX1 G h0 a0 f0 A0)) rfl rfl rfl rfl rfl hl.1 (Nat.le_of_ble_eq_true rfl) dX1_around_5 (fun H locs hPD hS => ?_)
  refine lv_iconst (v := 1) hx hb dX1_around_8 (by decide) ?_
  refine lv_iload_n hx hb dX1_around_9 rfl (lv_at hl 1 rfl) ?_
  refine lv_ishl hx hb dX1_around_10 ?_
  refine lv_ior hx hb dX1_around_11 ?_
  subst h
  exact eI C0 hPD.1 hPD.2 hS rfl dX1_around_12
abbrev rmX1_aroundAny : Room := { frames := 2, cells := 0, slots := 0, locals := 43 }
set_option maxRecDepth 100000 in
set_option maxHeartbeats 4000000 in
theorem ww_f1_aroundAny_b4  (C0 : Cx cX1_aroundAny 4 (some .int) RX1 p s m args meth c G DA) {h0 : Nat} {a0 : Nat → Nat} {f0 : Nat → Int32} {A0 : Nat → Nat → Int32} {p1 : Int32}  {k4 : Int32 → Int32 → Option (Int32)} {res : Int32}  (hk4 : ∀ (l2 : Int32) (l3 : Int32), k4 l2 l3 = some res → ∀ (H : Heap) (locs : List Loc) (ls : Array Slot), WD G DA (wX1 G h0 a0 f0 A0) H → va_S DA s.heap H locs → lv_has ls 4 [(0, .ref h0), (1, .int p1), (2, .int l2), (3, .int l3)] → W p l e rmX1_aroundAny s m args below meth c H locs 0 0 (MQ below (QI G DA res (wX1 G h0 a0 f0 A0)) args s 0 0 DA) (F0 m 4 ls [])) : ∀ (l2 : Int32) (l3 : Int32), f1_aroundAny_b4 f0 A0 p1  k4 l2 l3 = some res → ∀ (H : Heap) (locs : List Loc) (ls : Array Slot), WD G DA (wX1 G h0 a0 f0 A0) H → va_S DA s.heap H locs → lv_has ls 4 [(0, .ref h0), (1, .int p1), (2, .int l2), (3, .int l3)] → W p l e rmX1_aroundAny s m args below meth c H locs 0 0 (MQ below (QI G DA res (wX1 G h0 a0 f0 A0)) args s 0 0 DA) (F0 m 4 ls []) := by
  obtain ⟨hx, hb, hml, hown, hts⟩ := C0.1
  have hK := C0.2.2.2.1
  intro l2 l3 h _ _ _ hPD hS hl
  unfold f1_aroundAny_b4 at h
  refine lv_iload_n hx hb dX1_aroundAny_4 rfl (lv_at hl 3 rfl) ?_
  refine lv_bipush (v := 16) hx hb dX1_aroundAny_5 (by decide) ?_
  refine lv_icmp_ge (tgt := 32) hx hb dX1_aroundAny_7 (by decide) (fun cc1 => ?_) (fun cc1 => ?_)
  · have h := (if_pos cc1).symm.trans h
    refine lv_iload_n hx hb dX1_aroundAny_32 rfl (lv_at hl 2 rfl) ?_
    obtain rfl := Option.some.inj h
    exact eI C0 hPD.1 hPD.2 hS rfl dX1_aroundAny_33
  · have h := (if_neg cc1).symm.trans h
    refine lv_iload_n hx hb dX1_aroundAny_10 rfl (lv_at hl 1 rfl) ?_
    refine lv_iload_n hx hb dX1_aroundAny_11 rfl (lv_at hl 3 rfl) ?_
    refine kNI (As := [.int p1, .int l3]) (rest := []) C0 (kt_X9_has l G  p1 l3) gi_U_X9_has (host := "IdleCrimes") (index := 29) (List.mem_of_getElem? (i := 9) rfl) gw_6 gw_74 (n := 2) rfl (by decide +kernel) ⟨rfl, rfl, Nat.le_of_ble_eq_true rfl, Nat.le_of_ble_eq_true rfl⟩ hPD hS [] [0, 1, 2, 3] [0, 1, 2, 3] (wr := (wX1 G h0 a0 f0 A0)) (wN := (wX1 G h0 a0 f0 A0)) rfl rfl rfl rfl rfl hl.1 (Nat.le_of_ble_eq_true rfl) dX1_aroundAny_12 (fun H locs hPD hS => ?_)
    refine lv_if_eq (tgt := 26) hx hb dX1_aroundAny_15 (by decide) (fun cc1 => ?_) (fun cc1 => ?_)
    · have h := (if_pos cc1).symm.trans h
      refine lv_iinc (v := l3 + 1) (lv' := [(3, .int (l3 + 1)), (0, .ref h0), (1, .int p1), (2, .int l2)]) hx hb dX1_aroundAny_26 hl (k := 3) rfl rfl (by decide) rfl (fun ls hl => ?_)
      refine lv_goto (tgt := 4) hx hb dX1_aroundAny_29 (by decide) ?_
      exact hk4 l2 (l3 + 1) h _ _ _ hPD hS (lv_sub hl [1, 2, 3, 0] rfl)
    · have h := (if_neg cc1).symm.trans h
      refine lv_iload_n hx hb dX1_aroundAny_18 rfl (lv_at hl 2 rfl) ?_
      refine lv_aload_n hx hb dX1_aroundAny_19 rfl (lv_at hl 0 rfl) ?_
      refine lv_iload_n hx hb dX1_aroundAny_20 rfl (lv_at hl 3 rfl) ?_
      refine kVI (As := [.int l3]) (rest := [.int l2]) C0 (kt_X1_around l G h0 a0 f0 A0 l3) gi_V_X1_41_X1_around (n := 1) rfl (by decide +kernel) rfl ⟨rfl, rfl, Nat.le_of_ble_eq_true rfl, Nat.le_of_ble_eq_true rfl⟩ hPD hS 0 1 rfl rfl rfl [0, 1, 2, 3] [] [0, 1, 2, 3] (wr := ([] : va_W)) (wN := (wX1 G h0 a0 f0 A0)) rfl rfl rfl rfl rfl hl.1 (Nat.le_of_ble_eq_true rfl) dX1_aroundAny_21 (fun H locs hPD hS => ?_)
      refine lv_ior hx hb dX1_aroundAny_24 ?_
      refine lv_istore_n (lv' := [(2, .int (l2 ||| (f1_around f0 A0 l3))), (0, .ref h0), (1, .int p1), (3, .int l3)]) hx hb dX1_aroundAny_25 rfl hl (by decide) rfl (fun ls hl => ?_)
      refine lv_iinc (v := l3 + 1) (lv' := [(3, .int (l3 + 1)), (2, .int (l2 ||| (f1_around f0 A0 l3))), (0, .ref h0), (1, .int p1)]) hx hb dX1_aroundAny_26 hl (k := 3) rfl rfl (by decide) rfl (fun ls hl => ?_)
      refine lv_goto (tgt := 4) hx hb dX1_aroundAny_29 (by decide) ?_
      exact hk4 (l2 ||| (f1_around f0 A0 l3)) (l3 + 1) h _ _ _ hPD hS (lv_sub hl [2, 3, 1, 0] rfl)
set_option maxRecDepth 100000 in
set_option maxHeartbeats 4000000 in
theorem ww_f1_aroundAny_l4  (C0 : Cx cX1_aroundAny 4 (some .int) RX1 p s m args meth c G DA) {h0 : Nat} {a0 : Nat → Nat} {f0 : Nat → Int32} {A0 : Nat → Nat → Int32} {p1 : Int32}   {res : Int32}  : ∀ (n : Nat) (l2 : Int32) (l3 : Int32), f1_aroundAny_l4 f0 A0 p1  n l2 l3 = some res → ∀ (H : Heap) (locs : List Loc) (ls : Array Slot), WD G DA (wX1 G h0 a0 f0 A0) H → va_S DA s.heap H locs → lv_has ls 4 [(0, .ref h0), (1, .int p1), (2, .int l2), (3, .int l3)] → W p l e rmX1_aroundAny s m args below meth c H locs 0 0 (MQ below (QI G DA res (wX1 G h0 a0 f0 A0)) args s 0 0 DA) (F0 m 4 ls []) := by
  intro n
  induction n with
  | zero => intro l2 l3 h; cases h
  | succ n ih => intro l2 l3 h; exact ww_f1_aroundAny_b4 C0  ih l2 l3 h
set_option maxRecDepth 100000 in
set_option maxHeartbeats 4000000 in
theorem kt_X1_aroundAny (l : Launch) (G : Gp) (h0 : Nat) (a0 : Nat → Nat) (f0 : Nat → Int32) (A0 : Nat → Nat → Int32) (p1 : Int32) : ∀ {r : Int32}, f1_aroundAny f0 A0 p1 = some r → CtrI l yX1_aroundAny cX1_aroundAny 4 (some .int) rmX1_aroundAny G [.ref h0, .int p1] (wX1 G h0 a0 f0 A0) r (wX1 G h0 a0 f0 A0) := by
  intro res h
  refine ctrI_of (cc := cX1_aroundAny) (maxL := 4) (ret := (some .int)) (by decide +kernel) rfl (Nat.le_of_ble_eq_true rfl) (fun p e s m below meth c DA C0 hP hD ls hl => ?_)
  have hPD : WD G DA (wX1 G h0 a0 f0 A0) s.heap := ⟨hP, hD⟩
  have hS : va_S DA s.heap s.heap [] := va_S.rf
  have hl : lv_has ls 4 [(0, .ref h0), (1, .int p1)] := hl
  obtain ⟨hx, hb, hml, hown, hts⟩ := C0.1
  have hK := C0.2.2.2.1
  unfold f1_aroundAny at h
  refine lv_iconst (v := 0) hx hb dX1_aroundAny_0 (by decide) ?_
  refine lv_istore_n (lv' := [(2, .int 0), (0, .ref h0), (1, .int p1)]) hx hb dX1_aroundAny_1 rfl hl (by decide) rfl (fun ls hl => ?_)
  refine lv_iconst (v := 0) hx hb dX1_aroundAny_2 (by decide) ?_
  refine lv_istore_n (lv' := [(3, .int 0), (2, .int 0), (0, .ref h0), (1, .int p1)]) hx hb dX1_aroundAny_3 rfl hl (by decide) rfl (fun ls hl => ?_)
  exact ww_f1_aroundAny_l4 C0 NF 0 0 h _ _ _ hPD hS (lv_sub hl [2, 3, 1, 0] rfl)
abbrev rmX1_measure : Room := { frames := 3, cells := 0, slots := 0, locals := 66 }
set_option maxRecDepth 100000 in
set_option maxHeartbeats 4000000 in
theorem ww_f1_measure_b47  (C0 : Cx cX1_measure 6 none RX1 p s m args meth c G DA) {h0 : Nat} {a0 : Nat → Nat} {f0 : Nat → Int32} {p1 : Int32}  {k33 : (Nat → Nat → Int32) → Int32 → Int32 → Int32 → Option ((Nat → Nat → Int32))} {k47 : (Nat → Nat → Int32) → Int32 → Int32 → Int32 → Int32 → Option ((Nat → Nat → Int32))} {res : (Nat → Nat → Int32)} (hk33 : ∀ (A0 : Nat → Nat → Int32) (l2 : Int32) (l3 : Int32) (l4 : Int32), k33 A0 l2 l3 l4 = some res → ∀ (H : Heap) (locs : List Loc) (ls : Array Slot), WD G DA (wX1 G h0 a0 f0 A0) H → va_S DA s.heap H locs → lv_has ls 6 [(0, .ref h0), (1, .int p1), (2, .int l2), (3, .int l3), (4, .int l4)] → W p l e rmX1_measure s m args below meth c H locs 0 0 (MQ below (QV G DA (wX1 G h0 a0 f0 res)) args s 0 0 DA) (F0 m 33 ls [])) (hk47 : ∀ (A0 : Nat → Nat → Int32) (l2 : Int32) (l3 : Int32) (l4 : Int32) (l5 : Int32), k47 A0 l2 l3 l4 l5 = some res → ∀ (H : Heap) (locs : List Loc) (ls : Array Slot), WD G DA (wX1 G h0 a0 f0 A0) H → va_S DA s.heap H locs → lv_has ls 6 [(0, .ref h0), (1, .int p1), (2, .int l2), (3, .int l3), (4, .int l4), (5, .int l5)] → W p l e rmX1_measure s m args below meth c H locs 0 0 (MQ below (QV G DA (wX1 G h0 a0 f0 res)) args s 0 0 DA) (F0 m 47 ls [])) : ∀ (A0 : Nat → Nat → Int32) (l2 : Int32) (l3 : Int32) (l4 : Int32) (l5 : Int32), f1_measure_b47 f0 p1 k33 k47 A0 l2 l3 l4 l5 = some res → ∀ (H : Heap) (locs : List Loc) (ls : Array Slot), WD G DA (wX1 G h0 a0 f0 A0) H → va_S DA s.heap H locs → lv_has ls 6 [(0, .ref h0), (1, .int p1), (2, .int l2), (3, .int l3), (4, .int l4), (5, .int l5)] → W p l e rmX1_measure s m args below meth c H locs 0 0 (MQ below (QV G DA (wX1 G h0 a0 f0 res)) args s 0 0 DA) (F0 m 47 ls []) := by
  obtain ⟨hx, hb, hml, hown, hts⟩ := C0.1
  have hK := C0.2.2.2.1
  intro A0 l2 l3 l4 l5 h _ _ _ hPD hS hl
  unfold f1_measure_b47 at h
  refine lv_iload hx hb dX1_measure_47 (lv_at hl 5 rfl) ?_
  refine lv_bipush (v := 16) hx hb dX1_measure_49 (by decide) ?_
  refine lv_icmp_ge (tgt := 80) hx hb dX1_measure_51 (by decide) (fun cc1 => ?_) (fun cc1 => ?_)
  · have h := (if_pos cc1).symm.trans h
    refine lv_aload_n hx hb dX1_measure_80 rfl (lv_at hl 0 rfl) ?_
    refine lv_iload_n hx hb dX1_measure_81 rfl (lv_at hl 3 rfl) ?_
    obtain ⟨q_1, hq_1, h⟩ := ob2 h
    refine kVI (As := [.int l3]) (rest := []) C0 (kt_X1_aroundAny l G h0 a0 f0 A0 l3 hq_1) gi_V_X1_45_X1_aroundAny (n := 1) rfl (by decide +kernel) rfl ⟨rfl, rfl, Nat.le_of_ble_eq_true rfl, Nat.le_of_ble_eq_true rfl⟩ hPD hS 0 1 rfl rfl rfl [0, 1, 2, 3] [] [0, 1, 2, 3] (wr := ([] : va_W)) (wN := (wX1 G h0 a0 f0 A0)) rfl rfl rfl rfl rfl hl.1 (Nat.le_of_ble_eq_true rfl) dX1_measure_82 (fun H locs hPD hS => ?_)
    refine lv_iload_n hx hb dX1_measure_85 rfl (lv_at hl 2 rfl) ?_
    refine lv_iconst (v := (-1)) hx hb dX1_measure_86 (by decide) ?_
    refine lv_ixor hx hb dX1_measure_87 ?_
    refine lv_iand hx hb dX1_measure_88 ?_
    refine lv_istore_n (lv' := [(3, .int (q_1 &&& (l2 ^^^ (-1)))), (0, .ref h0), (1, .int p1), (2, .int l2), (4, .int l4), (5, .int l5)]) hx hb dX1_measure_89 rfl hl (by decide) rfl (fun ls hl => ?_)
    refine lv_iload_n hx hb dX1_measure_90 rfl (lv_at hl 3 rfl) ?_
    refine lv_iload_n hx hb dX1_measure_91 rfl (lv_at hl 0 rfl) ?_
    refine lv_ior hx hb dX1_measure_92 ?_
    refine lv_istore_n (lv' := [(2, .int (l2 ||| (q_1 &&& (l2 ^^^ (-1))))), (3, .int (q_1 &&& (l2 ^^^ (-1)))), (0, .ref h0), (1, .int p1), (4, .int l4), (5, .int l5)]) hx hb dX1_measure_93 rfl hl (by decide) rfl (fun ls hl => ?_)
    refine lv_iinc (v := l4 + 1) (lv' := [(4, .int (l4 + 1)), (2, .int (l2 ||| (q_1 &&& (l2 ^^^ (-1))))), (3, .int (q_1 &&& (l2 ^^^ (-1)))), (0, .ref h0), (1, .int p1), (5, .int l5)]) hx hb dX1_measure_94 hl (k := 4) rfl rfl (by decide) rfl (fun ls hl => ?_)
    refine lv_goto (tgt := 33) hx hb dX1_measure_97 (by decide) ?_
    exact hk33 A0 (l2 ||| (q_1 &&& (l2 ^^^ (-1)))) (q_1 &&& (l2 ^^^ (-1))) (l4 + 1) h _ _ _ hPD hS (lv_sub hl [3, 4, 1, 2, 0] rfl)
  · have h := (if_neg cc1).symm.trans h
    refine lv_iload_n hx hb dX1_measure_54 rfl (lv_at hl 3 rfl) ?_
    refine lv_iload hx hb dX1_measure_55 (lv_at hl 5 rfl) ?_
    refine kNI (As := [.int l3, .int l5]) (rest := []) C0 (kt_X9_has l G  l3 l5) gi_U_X9_has (host := "IdleCrimes") (index := 29) (List.mem_of_getElem? (i := 9) rfl) gw_6 gw_74 (n := 2) rfl (by decide +kernel) ⟨rfl, rfl, Nat.le_of_ble_eq_true rfl, Nat.le_of_ble_eq_true rfl⟩ hPD hS [] [0, 1, 2, 3] [0, 1, 2, 3] (wr := (wX1 G h0 a0 f0 A0)) (wN := (wX1 G h0 a0 f0 A0)) rfl rfl rfl rfl rfl hl.1 (Nat.le_of_ble_eq_true rfl) dX1_measure_57 (fun H locs hPD hS => ?_)
    refine lv_if_eq (tgt := 74) hx hb dX1_measure_60 (by decide) (fun cc1 => ?_) (fun cc1 => ?_)
    · have h := (if_pos cc1).symm.trans h
      refine lv_iinc (v := l5 + 1) (lv' := [(5, .int (l5 + 1)), (0, .ref h0), (1, .int p1), (2, .int l2), (3, .int l3), (4, .int l4)]) hx hb dX1_measure_74 hl (k := 5) rfl rfl (by decide) rfl (fun ls hl => ?_)
      refine lv_goto (tgt := 47) hx hb dX1_measure_77 (by decide) ?_
      exact hk47 A0 l2 l3 l4 (l5 + 1) h _ _ _ hPD hS (lv_sub hl [1, 2, 3, 4, 5, 0] rfl)
    · have h := (if_neg cc1).symm.trans h
      refine lv_aload_n hx hb dX1_measure_63 rfl (lv_at hl 0 rfl) ?_
      refine va_get (D := G.1) (ci := 1) (v := .ref (a0 2)) (C := RX1) (T := TX1) (N := 4) hx hb hts inlX1 hown hK hPD.1 0 rfl rfl 2 (by decide) (hts _ gw_82) (fun _ h9 => h9) rfl dX1_measure_64 ?_
      refine lv_iload hx hb dX1_measure_67 (lv_at hl 5 rfl) ?_
      refine lv_iload hx hb dX1_measure_69 (lv_at hl 4 rfl) ?_
      obtain ⟨z_2, ez_2, h⟩ := lvl h
      have kc := kt_X9_put l G (a0 2) 16 (A0 2) l5 l4 (by decide)
      rw [← ez_2] at kc
      clear ez_2
      refine kNV (As := [.ref (a0 2), .int l5, .int l4]) (rest := []) C0 (kc) gi_U_X9_put (host := "IdleCrimes") (index := 37) (List.mem_of_getElem? (i := 21) rfl) gw_6 gw_19 (n := 3) rfl (by decide +kernel) ⟨rfl, rfl, Nat.le_of_ble_eq_true rfl, Nat.le_of_ble_eq_true rfl⟩ hPD hS [2] [0, 1, 3] [0, 1, 3, 2] (wr := pick (wX1 G h0 a0 f0 A0) [0, 1, 3]) (wN := (wX1 G h0 a0 f0 (updA A0 2 z_2))) rfl rfl rfl rfl rfl hl.1 (Nat.le_of_ble_eq_true rfl) dX1_measure_71 (fun H locs hPD hS => ?_)
      obtain ⟨A0_3, eA0_3, h⟩ := lvl h
      have hPD : WD G DA (wX1 G h0 a0 f0 A0_3) H := by rw [eA0_3]; exact hPD
      clear eA0_3
      refine lv_iinc (v := l5 + 1) (lv' := [(5, .int (l5 + 1)), (0, .ref h0), (1, .int p1), (2, .int l2), (3, .int l3), (4, .int l4)]) hx hb dX1_measure_74 hl (k := 5) rfl rfl (by decide) rfl (fun ls hl => ?_)
      refine lv_goto (tgt := 47) hx hb dX1_measure_77 (by decide) ?_
      exact hk47 A0_3 l2 l3 l4 (l5 + 1) h _ _ _ hPD hS (lv_sub hl [1, 2, 3, 4, 5, 0] rfl)
set_option maxRecDepth 100000 in
set_option maxHeartbeats 4000000 in
theorem ww_f1_measure_l47  (C0 : Cx cX1_measure 6 none RX1 p s m args meth c G DA) {h0 : Nat} {a0 : Nat → Nat} {f0 : Nat → Int32} {p1 : Int32}  {k33 : (Nat → Nat → Int32) → Int32 → Int32 → Int32 → Option ((Nat → Nat → Int32))} {res : (Nat → Nat → Int32)} (hk33 : ∀ (A0 : Nat → Nat → Int32) (l2 : Int32) (l3 : Int32) (l4 : Int32), k33 A0 l2 l3 l4 = some res → ∀ (H : Heap) (locs : List Loc) (ls : Array Slot), WD G DA (wX1 G h0 a0 f0 A0) H → va_S DA s.heap H locs → lv_has ls 6 [(0, .ref h0), (1, .int p1), (2, .int l2), (3, .int l3), (4, .int l4)] → W p l e rmX1_measure s m args below meth c H locs 0 0 (MQ below (QV G DA (wX1 G h0 a0 f0 res)) args s 0 0 DA) (F0 m 33 ls [])) : ∀ (n : Nat) (A0 : Nat → Nat → Int32) (l2 : Int32) (l3 : Int32) (l4 : Int32) (l5 : Int32), f1_measure_l47 f0 p1 k33 n A0 l2 l3 l4 l5 = some res → ∀ (H : Heap) (locs : List Loc) (ls : Array Slot), WD G DA (wX1 G h0 a0 f0 A0) H → va_S DA s.heap H locs → lv_has ls 6 [(0, .ref h0), (1, .int p1), (2, .int l2), (3, .int l3), (4, .int l4), (5, .int l5)] → W p l e rmX1_measure s m args below meth c H locs 0 0 (MQ below (QV G DA (wX1 G h0 a0 f0 res)) args s 0 0 DA) (F0 m 47 ls []) := by
  intro n
  induction n with
  | zero => intro A0 l2 l3 l4 l5 h; cases h
  | succ n ih => intro A0 l2 l3 l4 l5 h; exact ww_f1_measure_b47 C0 hk33 ih A0 l2 l3 l4 l5 h
set_option maxRecDepth 100000 in
set_option maxHeartbeats 4000000 in
theorem ww_f1_measure_b33  (C0 : Cx cX1_measure 6 none RX1 p s m args meth c G DA) {h0 : Nat} {a0 : Nat → Nat} {f0 : Nat → Int32} {p1 : Int32}  {k33 : (Nat → Nat → Int32) → Int32 → Int32 → Int32 → Option ((Nat → Nat → Int32))} {res : (Nat → Nat → Int32)}  (hk33 : ∀ (A0 : Nat → Nat → Int32) (l2 : Int32) (l3 : Int32) (l4 : Int32), k33 A0 l2 l3 l4 = some res → ∀ (H : Heap) (locs : List Loc) (ls : Array Slot), WD G DA (wX1 G h0 a0 f0 A0) H → va_S DA s.heap H locs → lv_has ls 6 [(0, .ref h0), (1, .int p1), (2, .int l2), (3, .int l3), (4, .int l4)] → W p l e rmX1_measure s m args below meth c H locs 0 0 (MQ below (QV G DA (wX1 G h0 a0 f0 res)) args s 0 0 DA) (F0 m 33 ls [])) : ∀ (A0 : Nat → Nat → Int32) (l2 : Int32) (l3 : Int32) (l4 : Int32), f1_measure_b33 f0 p1  k33 A0 l2 l3 l4 = some res → ∀ (H : Heap) (locs : List Loc) (ls : Array Slot), WD G DA (wX1 G h0 a0 f0 A0) H → va_S DA s.heap H locs → lv_has ls 6 [(0, .ref h0), (1, .int p1), (2, .int l2), (3, .int l3), (4, .int l4)] → W p l e rmX1_measure s m args below meth c H locs 0 0 (MQ below (QV G DA (wX1 G h0 a0 f0 res)) args s 0 0 DA) (F0 m 33 ls []) := by
  obtain ⟨hx, hb, hml, hown, hts⟩ := C0.1
  have hK := C0.2.2.2.1
  intro A0 l2 l3 l4 h _ _ _ hPD hS hl
  unfold f1_measure_b33 at h
  refine lv_iload hx hb dX1_measure_33 (lv_at hl 4 rfl) ?_
  refine lv_bipush (v := 16) hx hb dX1_measure_35 (by decide) ?_
  refine lv_icmp_ge (tgt := 100) hx hb dX1_measure_37 (by decide) (fun cc1 => ?_) (fun cc1 => ?_)
  · have h := (if_pos cc1).symm.trans h
    obtain rfl := Option.some.inj h
    exact eV C0 hPD.1 hPD.2 hS dX1_measure_100
  · have h := (if_neg cc1).symm.trans h
    refine lv_iload_n hx hb dX1_measure_40 rfl (lv_at hl 3 rfl) ?_
    refine lv_if_eq (tgt := 100) hx hb dX1_measure_41 (by decide) (fun cc1 => ?_) (fun cc1 => ?_)
    · have h := (if_pos cc1).symm.trans h
      obtain rfl := Option.some.inj h
      exact eV C0 hPD.1 hPD.2 hS dX1_measure_100
    · have h := (if_neg cc1).symm.trans h
      refine lv_iconst (v := 0) hx hb dX1_measure_44 (by decide) ?_
      refine lv_istore (lv' := [(5, .int 0), (0, .ref h0), (1, .int p1), (2, .int l2), (3, .int l3), (4, .int l4)]) hx hb dX1_measure_45 hl (by decide) rfl (fun ls hl => ?_)
      exact ww_f1_measure_l47 C0 hk33 NF A0 l2 l3 l4 0 h _ _ _ hPD hS (lv_sub hl [1, 2, 3, 4, 5, 0] rfl)
set_option maxRecDepth 100000 in
set_option maxHeartbeats 4000000 in
theorem ww_f1_measure_l33  (C0 : Cx cX1_measure 6 none RX1 p s m args meth c G DA) {h0 : Nat} {a0 : Nat → Nat} {f0 : Nat → Int32} {p1 : Int32}   {res : (Nat → Nat → Int32)}  : ∀ (n : Nat) (A0 : Nat → Nat → Int32) (l2 : Int32) (l3 : Int32) (l4 : Int32), f1_measure_l33 f0 p1  n A0 l2 l3 l4 = some res → ∀ (H : Heap) (locs : List Loc) (ls : Array Slot), WD G DA (wX1 G h0 a0 f0 A0) H → va_S DA s.heap H locs → lv_has ls 6 [(0, .ref h0), (1, .int p1), (2, .int l2), (3, .int l3), (4, .int l4)] → W p l e rmX1_measure s m args below meth c H locs 0 0 (MQ below (QV G DA (wX1 G h0 a0 f0 res)) args s 0 0 DA) (F0 m 33 ls []) := by
  intro n
  induction n with
  | zero => intro A0 l2 l3 l4 h; cases h
  | succ n ih => intro A0 l2 l3 l4 h; exact ww_f1_measure_b33 C0  ih A0 l2 l3 l4 h
set_option maxRecDepth 100000 in
set_option maxHeartbeats 4000000 in
theorem ww_f1_measure_b2  (C0 : Cx cX1_measure 6 none RX1 p s m args meth c G DA) {h0 : Nat} {a0 : Nat → Nat} {f0 : Nat → Int32} {p1 : Int32}  {k2 : (Nat → Nat → Int32) → Int32 → Option ((Nat → Nat → Int32))} {res : (Nat → Nat → Int32)}  (hk2 : ∀ (A0 : Nat → Nat → Int32) (l2 : Int32), k2 A0 l2 = some res → ∀ (H : Heap) (locs : List Loc) (ls : Array Slot), WD G DA (wX1 G h0 a0 f0 A0) H → va_S DA s.heap H locs → lv_has ls 6 [(0, .ref h0), (1, .int p1), (2, .int l2)] → W p l e rmX1_measure s m args below meth c H locs 0 0 (MQ below (QV G DA (wX1 G h0 a0 f0 res)) args s 0 0 DA) (F0 m 2 ls [])) : ∀ (A0 : Nat → Nat → Int32) (l2 : Int32), f1_measure_b2 f0 p1  k2 A0 l2 = some res → ∀ (H : Heap) (locs : List Loc) (ls : Array Slot), WD G DA (wX1 G h0 a0 f0 A0) H → va_S DA s.heap H locs → lv_has ls 6 [(0, .ref h0), (1, .int p1), (2, .int l2)] → W p l e rmX1_measure s m args below meth c H locs 0 0 (MQ below (QV G DA (wX1 G h0 a0 f0 res)) args s 0 0 DA) (F0 m 2 ls []) := by
  obtain ⟨hx, hb, hml, hown, hts⟩ := C0.1
  have hK := C0.2.2.2.1
  intro A0 l2 h _ _ _ hPD hS hl
  unfold f1_measure_b2 at h
  refine lv_iload_n hx hb dX1_measure_2 rfl (lv_at hl 2 rfl) ?_
  refine lv_aload_n hx hb dX1_measure_3 rfl (lv_at hl 0 rfl) ?_
  refine va_get (D := G.1) (ci := 1) (v := .ref (a0 2)) (C := RX1) (T := TX1) (N := 4) hx hb hts inlX1 hown hK hPD.1 0 rfl rfl 2 (by decide) (hts _ gw_82) (fun _ h9 => h9) rfl dX1_measure_4 ?_
  refine va_alen (v := 16) hx hb hK hPD.1 2 1 rfl rfl rfl dX1_measure_7 ?_
  refine lv_icmp_ge (tgt := 24) hx hb dX1_measure_8 (by decide) (fun cc1 => ?_) (fun cc1 => ?_)
  · have h := (if_pos cc1).symm.trans h
    refine lv_iconst (v := 1) hx hb dX1_measure_24 (by decide) ?_
    refine lv_iload_n hx hb dX1_measure_25 rfl (lv_at hl 1 rfl) ?_
    refine lv_ishl hx hb dX1_measure_26 ?_
    refine lv_istore_n (lv' := [(2, .int (shl 1 p1)), (0, .ref h0), (1, .int p1)]) hx hb dX1_measure_27 rfl hl (by decide) rfl (fun ls hl => ?_)
    refine lv_iload_n hx hb dX1_measure_28 rfl (lv_at hl 0 rfl) ?_
    refine lv_istore_n (lv' := [(3, .int (shl 1 p1)), (2, .int (shl 1 p1)), (0, .ref h0), (1, .int p1)]) hx hb dX1_measure_29 rfl hl (by decide) rfl (fun ls hl => ?_)
    refine lv_iconst (v := 0) hx hb dX1_measure_30 (by decide) ?_
    refine lv_istore (lv' := [(4, .int 0), (3, .int (shl 1 p1)), (2, .int (shl 1 p1)), (0, .ref h0), (1, .int p1)]) hx hb dX1_measure_31 hl (by decide) rfl (fun ls hl => ?_)
    exact ww_f1_measure_l33 C0 NF A0 (shl 1 p1) (shl 1 p1) 0 h _ _ _ hPD hS (lv_sub hl [3, 4, 2, 1, 0] rfl)
  · have h := (if_neg cc1).symm.trans h
    refine lv_aload_n hx hb dX1_measure_11 rfl (lv_at hl 0 rfl) ?_
    refine va_get (D := G.1) (ci := 1) (v := .ref (a0 2)) (C := RX1) (T := TX1) (N := 4) hx hb hts inlX1 hown hK hPD.1 0 rfl rfl 2 (by decide) (hts _ gw_82) (fun _ h9 => h9) rfl dX1_measure_12 ?_
    refine lv_iload_n hx hb dX1_measure_15 rfl (lv_at hl 2 rfl) ?_
    refine lv_iconst (v := (-1)) hx hb dX1_measure_16 (by decide) ?_
    obtain ⟨hi_4, h⟩ := ob h
    refine va_iast hx hb hK hPD.1 hPD.2 hS 2 1 rfl rfl hi_4 dX1_measure_17 (fun H locs hP hD hS => ?_)
    obtain ⟨A0_5, eA0_5, h⟩ := lvl h
    have hPD : WD G DA (wX1 G h0 a0 f0 A0_5) H := by rw [eA0_5]; exact ⟨hP, hD⟩
    clear eA0_5 hP hD
    refine lv_iinc (v := l2 + 1) (lv' := [(2, .int (l2 + 1)), (0, .ref h0), (1, .int p1)]) hx hb dX1_measure_18 hl (k := 2) rfl rfl (by decide) rfl (fun ls hl => ?_)
    refine lv_goto (tgt := 2) hx hb dX1_measure_21 (by decide) ?_
    exact hk2 A0_5 (l2 + 1) h _ _ _ hPD hS (lv_sub hl [1, 2, 0] rfl)
set_option maxRecDepth 100000 in
set_option maxHeartbeats 4000000 in
theorem ww_f1_measure_l2  (C0 : Cx cX1_measure 6 none RX1 p s m args meth c G DA) {h0 : Nat} {a0 : Nat → Nat} {f0 : Nat → Int32} {p1 : Int32}   {res : (Nat → Nat → Int32)}  : ∀ (n : Nat) (A0 : Nat → Nat → Int32) (l2 : Int32), f1_measure_l2 f0 p1  n A0 l2 = some res → ∀ (H : Heap) (locs : List Loc) (ls : Array Slot), WD G DA (wX1 G h0 a0 f0 A0) H → va_S DA s.heap H locs → lv_has ls 6 [(0, .ref h0), (1, .int p1), (2, .int l2)] → W p l e rmX1_measure s m args below meth c H locs 0 0 (MQ below (QV G DA (wX1 G h0 a0 f0 res)) args s 0 0 DA) (F0 m 2 ls []) := by
  intro n
  induction n with
  | zero => intro A0 l2 h; cases h
  | succ n ih => intro A0 l2 h; exact ww_f1_measure_b2 C0  ih A0 l2 h
set_option maxRecDepth 100000 in
set_option maxHeartbeats 4000000 in
theorem kt_X1_measure (l : Launch) (G : Gp) (h0 : Nat) (a0 : Nat → Nat) (f0 : Nat → Int32) (A0 : Nat → Nat → Int32) (p1 : Int32) : ∀ {r : (Nat → Nat → Int32)}, f1_measure f0 A0 p1 = some r → CtrV l yX1_measure cX1_measure 6 none rmX1_measure G [.ref h0, .int p1] (wX1 G h0 a0 f0 A0) (wX1 G h0 a0 f0 r) := by
  intro res h
  refine ctrV_of (cc := cX1_measure) (maxL := 6) (ret := none) (by decide +kernel) rfl (Nat.le_of_ble_eq_true rfl) (fun p e s m below meth c DA C0 hP hD ls hl => ?_)
  have hPD : WD G DA (wX1 G h0 a0 f0 A0) s.heap := ⟨hP, hD⟩
  have hS : va_S DA s.heap s.heap [] := va_S.rf
  have hl : lv_has ls 6 [(0, .ref h0), (1, .int p1)] := hl
  obtain ⟨hx, hb, hml, hown, hts⟩ := C0.1
  have hK := C0.2.2.2.1
  unfold f1_measure at h
  refine lv_iconst (v := 0) hx hb dX1_measure_0 (by decide) ?_
  refine lv_istore_n (lv' := [(2, .int 0), (0, .ref h0), (1, .int p1)]) hx hb dX1_measure_1 rfl hl (by decide) rfl (fun ls hl => ?_)
  exact ww_f1_measure_l2 C0 NF A0 0 h _ _ _ hPD hS (lv_sub hl [1, 2, 0] rfl)
end WALK
