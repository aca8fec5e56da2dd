section WALK
variable {p : Program} {l : Launch} {e : Env} {s : State} {m : MethodId} {args : Array Value} {below : List Frame} {meth : Method} {c : Code} {G : Gp} {DA : Nat → Prop}
abbrev rmX9_constable : Room := { frames := 3, cells := 0, slots := 0, locals := 64 }
set_option maxRecDepth 100000 in
set_option maxHeartbeats 4000000 in
theorem kt_X9_constable (l : Launch) (G : Gp) (h0 : Nat) (a0 : Nat → Nat) (wk : Option Nat) (a1 : Nat → Nat) (a2 : Nat → Nat) (f0 : Nat → Int32) (A0 : Nat → Nat → Int32) (f1 : Nat → Int32) (A1 : Nat → Nat → Int32) (f2 : Nat → Int32) (A2 : Nat → Nat → Int32) (p1 : Int32) (p2 : Int32) : ∀ {r : Int32 × (Nat → Nat → Int32) × (Nat → Int32)}, f9_constable f0 A0 f1 A1 f2 A2 p1 p2 = some r → CtrI l yX9_constable cX9_constable 3 (some .boolean) rmX9_constable G [.ref h0, .int p1, .int p2] (wX9 G h0 a0 wk f0 A0 ++ (wX1 G (a0 1) a1 f1 A1 ++ (wX6 G (a0 2) a2 f2 A2))) r.1 (wX9 G h0 a0 wk f0 A0 ++ (wX1 G (a0 1) a1 f1 A1 ++ (wX6 G (a0 2) a2 r.2.2 r.2.1))) := by
  intro res h
  refine ctrI_of (cc := cX9_constable) (maxL := 3) (ret := (some .boolean)) (by decide +kernel) rfl (Nat.le_of_ble_eq_true rfl) (fun p e s m below meth c DA C0 hP hD ls hl => ?_)
  have hPD : WD G DA (wX9 G h0 a0 wk f0 A0 ++ (wX1 G (a0 1) a1 f1 A1 ++ (wX6 G (a0 2) a2 f2 A2))) s.heap := ⟨hP, hD⟩
  have hS : va_S DA s.heap s.heap [] := va_S.rf
  have hl : lv_has ls 3 [(0, .ref h0), (1, .int p1), (2, .int p2)] := hl
  obtain ⟨hx, hb, hml, hown, hts⟩ := C0.1
  have hK := C0.2.2.2.1
  unfold f9_constable at h
  refine lv_iload_n hx hb dX9_constable_0 rfl (lv_at hl 1 rfl) ?_
  refine lv_iconst (v := 0) hx hb dX9_constable_1 (by decide) ?_
  refine lv_bipush (v := 7) hx hb dX9_constable_2 (by decide) ?_
  refine kSI (As := [.int p1, .int 0, .int 7]) (rest := []) C0 (kt_X9_within l G  p1 0 7) gi_S_X9_90_X9_within (n := 3) rfl (by decide +kernel) ⟨rfl, rfl, Nat.le_of_ble_eq_true rfl, Nat.le_of_ble_eq_true rfl⟩ hPD hS [] [0, 1, 2, 3, 4, 5, 6, 7, 8, 9, 10, 11] [0, 1, 2, 3, 4, 5, 6, 7, 8, 9, 10, 11] (wr := (wX9 G h0 a0 wk f0 A0 ++ (wX1 G (a0 1) a1 f1 A1 ++ (wX6 G (a0 2) a2 f2 A2)))) (wN := (wX9 G h0 a0 wk f0 A0 ++ (wX1 G (a0 1) a1 f1 A1 ++ (wX6 G (a0 2) a2 f2 A2)))) rfl rfl rfl rfl rfl hl.1 (Nat.le_of_ble_eq_true rfl) dX9_constable_4 (fun H locs hPD hS => ?_)
  refine lv_if_eq (tgt := 21) hx hb dX9_constable_7 (by decide) (fun cc1 => ?_) (fun cc1 => ?_)
  · have h := (if_pos cc1).symm.trans h
    refine lv_iconst (v := 0) hx hb dX9_constable_21 (by decide) ?_
    obtain rfl := Option.some.inj h
    exact eZ C0 hPD.1 hPD.2 hS rfl rfl dX9_constable_22
  · have h := (if_neg cc1).symm.trans h
    refine lv_aload_n hx hb dX9_constable_10 rfl (lv_at hl 0 rfl) ?_
    refine va_get (D := G.1) (ci := 9) (v := .ref (a0 1)) (C := RX9) (T := TX9) (N := 15) hx hb hts inlX9 hown hK hPD.1 0 rfl rfl 1 (by decide) (hts _ gw_351) (fun _ h9 => h9) rfl dX9_constable_11 ?_
    refine lv_iload_n hx hb dX9_constable_14 rfl (lv_at hl 2 rfl) ?_
    refine kVI (As := [.int p2]) (rest := []) C0 (kt_X1_isTold l G (a0 1) a1 f1 A1 p2) gi_V_X9_108_X1_isTold (n := 1) rfl (by decide +kernel) rfl ⟨rfl, rfl, Nat.le_of_ble_eq_true rfl, Nat.le_of_ble_eq_true rfl⟩ hPD hS 2 1 rfl rfl rfl [2, 3, 4, 5] [0, 1, 6, 7, 8, 9, 10, 11] [0, 1, 8, 9, 10, 11, 2, 3, 4, 5, 6, 7] (wr := (wX9 G h0 a0 wk f0 A0 ++ (wX6 G (a0 2) a2 f2 A2))) (wN := (wX9 G h0 a0 wk f0 A0 ++ (wX1 G (a0 1) a1 f1 A1 ++ (wX6 G (a0 2) a2 f2 A2)))) rfl rfl rfl rfl rfl hl.1 (Nat.le_of_ble_eq_true rfl) dX9_constable_15 (fun H locs hPD hS => ?_)
    refine lv_if_ne (tgt := 23) hx hb dX9_constable_18 (by decide) (fun cc1 => ?_) (fun cc1 => ?_)
    · have h := (if_neg cc1).symm.trans h
      refine lv_aload_n hx hb dX9_constable_23 rfl (lv_at hl 0 rfl) ?_
      refine va_get (D := G.1) (ci := 9) (v := .ref (a0 2)) (C := RX9) (T := TX9) (N := 15) hx hb hts inlX9 hown hK hPD.1 0 rfl rfl 2 (by decide) (hts _ gw_353) (fun _ h9 => h9) rfl dX9_constable_24 ?_
      refine lv_dup hx hb dX9_constable_27 rfl ?_
      refine va_get (D := G.1) (ci := 6) (v := .int (f2 5)) (C := RX6) (T := TX6) (N := 10) hx hb hts inlX6 hown hK hPD.1 6 rfl rfl 5 (by decide) (hts _ gw_358) (fun _ h9 => h9) rfl dX9_constable_28 ?_
      refine lv_iconst (v := 1) hx hb dX9_constable_31 (by decide) ?_
      refine lv_iload_n hx hb dX9_constable_32 rfl (lv_at hl 1 rfl) ?_
      refine lv_ishl hx hb dX9_constable_33 ?_
      refine lv_ior hx hb dX9_constable_34 ?_
      refine va_put (D := G.1) (ci := 6) (v := .int ((f2 5) ||| (shl 1 p1))) (ty := .int) (C := RX6) (T := TX6) (N := 10) hx hb hts inlX6 tyX6 tyX6_ok nmX6 hown hK hPD.1 hPD.2 hS 6 rfl rfl 5 (by decide) (hts _ gw_358) (fun _ h9 => h9) rfl (by decide +kernel) rfl rfl (Nat.le_of_ble_eq_true rfl) dX9_constable_35 (fun H locs hP hD hS => ?_)
      obtain ⟨f2_1, ef2_1, h⟩ := lvl h
      have hPD : WD G DA (wX9 G h0 a0 wk f0 A0 ++ (wX1 G (a0 1) a1 f1 A1 ++ (wX6 G (a0 2) a2 f2_1 A2))) H := by rw [ef2_1]; exact ⟨hP, hD⟩
      clear ef2_1 hP hD
      refine lv_aload_n hx hb dX9_constable_38 rfl (lv_at hl 0 rfl) ?_
      refine va_get (D := G.1) (ci := 9) (v := .ref (a0 2)) (C := RX9) (T := TX9) (N := 15) hx hb hts inlX9 hown hK hPD.1 0 rfl rfl 2 (by decide) (hts _ gw_353) (fun _ h9 => h9) rfl dX9_constable_39 ?_
      refine va_get (D := G.1) (ci := 6) (v := .ref (a2 3)) (C := RX6) (T := TX6) (N := 10) hx hb hts inlX6 hown hK hPD.1 6 rfl rfl 3 (by decide) (hts _ gw_359) (fun _ h9 => h9) rfl dX9_constable_42 ?_
      refine lv_iload_n hx hb dX9_constable_45 rfl (lv_at hl 1 rfl) ?_
      refine lv_iload_n hx hb dX9_constable_46 rfl (lv_at hl 2 rfl) ?_
      obtain ⟨z_2, ez_2, h⟩ := lvl h
      have kc := kt_X9_put l G (a2 3) 8 (A2 3) p1 p2 (by decide)
      rw [← ez_2] at kc
      clear ez_2
      refine kSV (As := [.ref (a2 3), .int p1, .int p2]) (rest := []) C0 (kc) gi_S_X9_101_X9_put (n := 3) rfl (by decide +kernel) ⟨rfl, rfl, Nat.le_of_ble_eq_true rfl, Nat.le_of_ble_eq_true rfl⟩ hPD hS [10] [0, 1, 2, 3, 4, 5, 6, 7, 8, 9, 11] [0, 1, 2, 3, 4, 5, 6, 7, 8, 9, 11, 10] (wr := pick (wX9 G h0 a0 wk f0 A0 ++ (wX1 G (a0 1) a1 f1 A1 ++ (wX6 G (a0 2) a2 f2_1 A2))) [0, 1, 2, 3, 4, 5, 6, 7, 8, 9, 11]) (wN := (wX9 G h0 a0 wk f0 A0 ++ (wX1 G (a0 1) a1 f1 A1 ++ (wX6 G (a0 2) a2 f2_1 (updA A2 3 z_2))))) rfl rfl rfl rfl rfl hl.1 (Nat.le_of_ble_eq_true rfl) dX9_constable_47 (fun H locs hPD hS => ?_)
      obtain ⟨A2_3, eA2_3, h⟩ := lvl h
      have hPD : WD G DA (wX9 G h0 a0 wk f0 A0 ++ (wX1 G (a0 1) a1 f1 A1 ++ (wX6 G (a0 2) a2 f2_1 A2_3))) H := by rw [eA2_3]; exact hPD
      clear eA2_3
      refine lv_aload_n hx hb dX9_constable_50 rfl (lv_at hl 0 rfl) ?_
      refine va_get (D := G.1) (ci := 9) (v := .ref (a0 2)) (C := RX9) (T := TX9) (N := 15) hx hb hts inlX9 hown hK hPD.1 0 rfl rfl 2 (by decide) (hts _ gw_353) (fun _ h9 => h9) rfl dX9_constable_51 ?_
      refine va_get (D := G.1) (ci := 6) (v := .ref (a2 4)) (C := RX6) (T := TX6) (N := 10) hx hb hts inlX6 hown hK hPD.1 6 rfl rfl 4 (by decide) (hts _ gw_360) (fun _ h9 => h9) rfl dX9_constable_54 ?_
      refine lv_iload_n hx hb dX9_constable_57 rfl (lv_at hl 1 rfl) ?_
      refine lv_iconst (v := 0) hx hb dX9_constable_58 (by decide) ?_
      obtain ⟨z_4, ez_4, h⟩ := lvl h
      have kc := kt_X9_put l G (a2 4) 8 (A2_3 4) p1 0 (by decide)
      rw [← ez_4] at kc
      clear ez_4
      refine kSV (As := [.ref (a2 4), .int p1, .int 0]) (rest := []) C0 (kc) gi_S_X9_101_X9_put (n := 3) rfl (by decide +kernel) ⟨rfl, rfl, Nat.le_of_ble_eq_true rfl, Nat.le_of_ble_eq_true rfl⟩ hPD hS [11] [0, 1, 2, 3, 4, 5, 6, 7, 8, 9, 10] [0, 1, 2, 3, 4, 5, 6, 7, 8, 9, 10, 11] (wr := pick (wX9 G h0 a0 wk f0 A0 ++ (wX1 G (a0 1) a1 f1 A1 ++ (wX6 G (a0 2) a2 f2_1 A2_3))) [0, 1, 2, 3, 4, 5, 6, 7, 8, 9, 10]) (wN := (wX9 G h0 a0 wk f0 A0 ++ (wX1 G (a0 1) a1 f1 A1 ++ (wX6 G (a0 2) a2 f2_1 (updA A2_3 4 z_4))))) rfl rfl rfl rfl rfl hl.1 (Nat.le_of_ble_eq_true rfl) dX9_constable_59 (fun H locs hPD hS => ?_)
      obtain ⟨A2_5, eA2_5, h⟩ := lvl h
      have hPD : WD G DA (wX9 G h0 a0 wk f0 A0 ++ (wX1 G (a0 1) a1 f1 A1 ++ (wX6 G (a0 2) a2 f2_1 A2_5))) H := by rw [eA2_5]; exact hPD
      clear eA2_5
      refine lv_iconst (v := 1) hx hb dX9_constable_62 (by decide) ?_
      obtain rfl := Option.some.inj h
      exact eZ C0 hPD.1 hPD.2 hS rfl rfl dX9_constable_63
    · have h := (if_pos cc1).symm.trans h
      refine lv_iconst (v := 0) hx hb dX9_constable_21 (by decide) ?_
      obtain rfl := Option.some.inj h
      exact eZ C0 hPD.1 hPD.2 hS rfl rfl dX9_constable_22
abbrev rmX9_seed : Room := { frames := 1, cells := 0, slots := 0, locals := 22 }
set_option maxRecDepth 100000 in
set_option maxHeartbeats 4000000 in
theorem kt_X9_seed (l : Launch) (G : Gp) (h0 : Nat) (a0 : Nat → Nat) (wk : Option Nat) (a1 : Nat → Nat) (f0 : Nat → Int32) (A0 : Nat → Nat → Int32) (f1 : Nat → Int32) (A1 : Nat → Nat → Int32) (p1 : Int32) : ∀ {r : Int32 × (Nat → Int32)}, f9_seed f0 A0 f1 A1 p1 = some r → CtrI l yX9_seed cX9_seed 2 (some .boolean) rmX9_seed G [.ref h0, .int p1] (wX9 G h0 a0 wk f0 A0 ++ (wX6 G (a0 2) a1 f1 A1)) r.1 (wX9 G h0 a0 wk f0 A0 ++ (wX6 G (a0 2) a1 r.2 A1)) := by
  intro res h
  refine ctrI_of (cc := cX9_seed) (maxL := 2) (ret := (some .boolean)) (by decide +kernel) rfl (Nat.le_of_ble_eq_true rfl) (fun p e s m below meth c DA C0 hP hD ls hl => ?_)
  have hPD : WD G DA (wX9 G h0 a0 wk f0 A0 ++ (wX6 G (a0 2) a1 f1 A1)) s.heap := ⟨hP, hD⟩
  have hS : va_S DA s.heap s.heap [] := va_S.rf
  have hl : lv_has ls 2 [(0, .ref h0), (1, .int p1)] := hl
  obtain ⟨hx, hb, hml, hown, hts⟩ := C0.1
  have hK := C0.2.2.2.1
  unfold f9_seed at h
  refine lv_iload_n hx hb dX9_seed_0 rfl (lv_at hl 1 rfl) ?_
  refine lv_iconst (v := 0) hx hb dX9_seed_1 (by decide) ?_
  refine lv_ldc (v := 65535) hx hb hown (hts _ gw_361) dX9_seed_2 ?_
  refine kSI (As := [.int p1, .int 0, .int 65535]) (rest := []) C0 (kt_X9_within l G  p1 0 65535) gi_S_X9_90_X9_within (n := 3) rfl (by decide +kernel) ⟨rfl, rfl, Nat.le_of_ble_eq_true rfl, Nat.le_of_ble_eq_true rfl⟩ hPD hS [] [0, 1, 2, 3, 4, 5, 6, 7] [0, 1, 2, 3, 4, 5, 6, 7] (wr := (wX9 G h0 a0 wk f0 A0 ++ (wX6 G (a0 2) a1 f1 A1))) (wN := (wX9 G h0 a0 wk f0 A0 ++ (wX6 G (a0 2) a1 f1 A1))) rfl rfl rfl rfl rfl hl.1 (Nat.le_of_ble_eq_true rfl) dX9_seed_4 (fun H locs hPD hS => ?_)
  refine lv_if_ne (tgt := 12) hx hb dX9_seed_7 (by decide) (fun cc1 => ?_) (fun cc1 => ?_)
  · have h := (if_neg cc1).symm.trans h
    refine lv_aload_n hx hb dX9_seed_12 rfl (lv_at hl 0 rfl) ?_
    refine va_get (D := G.1) (ci := 9) (v := .ref (a0 2)) (C := RX9) (T := TX9) (N := 15) hx hb hts inlX9 hown hK hPD.1 0 rfl rfl 2 (by decide) (hts _ gw_353) (fun _ h9 => h9) rfl dX9_seed_13 ?_
    refine lv_iload_n hx hb dX9_seed_16 rfl (lv_at hl 1 rfl) ?_
    refine va_put (D := G.1) (ci := 6) (v := .int p1) (ty := .int) (C := RX6) (T := TX6) (N := 10) hx hb hts inlX6 tyX6 tyX6_ok nmX6 hown hK hPD.1 hPD.2 hS 2 rfl rfl 9 (by decide) (hts _ gw_362) (fun _ h9 => h9) rfl (by decide +kernel) rfl rfl (Nat.le_of_ble_eq_true rfl) dX9_seed_17 (fun H locs hP hD hS => ?_)
    obtain ⟨f1_1, ef1_1, h⟩ := lvl h
    have hPD : WD G DA (wX9 G h0 a0 wk f0 A0 ++ (wX6 G (a0 2) a1 f1_1 A1)) H := by rw [ef1_1]; exact ⟨hP, hD⟩
    clear ef1_1 hP hD
    refine lv_iconst (v := 1) hx hb dX9_seed_20 (by decide) ?_
    obtain rfl := Option.some.inj h
    exact eZ C0 hPD.1 hPD.2 hS rfl rfl dX9_seed_21
  · have h := (if_pos cc1).symm.trans h
    refine lv_iconst (v := 0) hx hb dX9_seed_10 (by decide) ?_
    obtain rfl := Option.some.inj h
    exact eZ C0 hPD.1 hPD.2 hS rfl rfl dX9_seed_11
abbrev rmX9_feed : Room := { frames := 2, cells := 0, slots := 0, locals := 44 }
set_option maxRecDepth 100000 in
set_option maxHeartbeats 4000000 in
theorem kt_X9_feed (l : Launch) (G : Gp) (h0 : Nat) (a0 : Nat → Nat) (wk : Option Nat) (a1 : Nat → Nat) (f0 : Nat → Int32) (A0 : Nat → Nat → Int32) (f1 : Nat → Int32) (A1 : Nat → Nat → Int32) (p1 : Int32) (p2 : Int32) (p3 : Int32) (p4 : Int32) (p5 : Int32) : ∀ {r : Int32 × (Nat → Nat → Int32) × (Nat → Int32)}, f9_feed f0 A0 f1 A1 p1 p2 p3 p4 p5 = some r → CtrI l yX9_feed cX9_feed 6 (some .int) rmX9_feed G [.ref h0, .int p1, .int p2, .int p3, .int p4, .int p5] (wX9 G h0 a0 wk f0 A0 ++ (wX7 G (a0 0) a1 f1 A1)) r.1 (wX9 G h0 a0 wk f0 A0 ++ (wX7 G (a0 0) a1 r.2.2 r.2.1)) := by
  intro res h
  refine ctrI_of (cc := cX9_feed) (maxL := 6) (ret := (some .int)) (by decide +kernel) rfl (Nat.le_of_ble_eq_true rfl) (fun p e s m below meth c DA C0 hP hD ls hl => ?_)
  have hPD : WD G DA (wX9 G h0 a0 wk f0 A0 ++ (wX7 G (a0 0) a1 f1 A1)) s.heap := ⟨hP, hD⟩
  have hS : va_S DA s.heap s.heap [] := va_S.rf
  have hl : lv_has ls 6 [(0, .ref h0), (1, .int p1), (2, .int p2), (3, .int p3), (4, .int p4), (5, .int p5)] := hl
  obtain ⟨hx, hb, hml, hown, hts⟩ := C0.1
  have hK := C0.2.2.2.1
  unfold f9_feed at h
  refine lv_aload_n hx hb dX9_feed_0 rfl (lv_at hl 0 rfl) ?_
  refine va_get (D := G.1) (ci := 9) (v := .ref (a0 0)) (C := RX9) (T := TX9) (N := 15) hx hb hts inlX9 hown hK hPD.1 0 rfl rfl 0 (by decide) (hts _ gw_363) (fun _ h9 => h9) rfl dX9_feed_1 ?_
  refine va_get (D := G.1) (ci := 7) (v := .int (f1 1)) (C := RX7) (T := TX7) (N := 6) hx hb hts inlX7 hown hK hPD.1 2 rfl rfl 1 (by decide) (hts _ gw_364) (fun _ h9 => h9) rfl dX9_feed_4 ?_
  refine lv_bipush (v := 20) hx hb dX9_feed_7 (by decide) ?_
  refine lv_iadd hx hb dX9_feed_9 ?_
  refine lv_sipush (v := 260) hx hb dX9_feed_10 (by decide) ?_
  refine lv_icmp_le (tgt := 18) hx hb dX9_feed_13 (by decide) (fun cc1 => ?_) (fun cc1 => ?_)
  · have h := (if_pos cc1).symm.trans h
    refine lv_aload_n hx hb dX9_feed_18 rfl (lv_at hl 0 rfl) ?_
    refine va_get (D := G.1) (ci := 9) (v := .ref (a0 0)) (C := RX9) (T := TX9) (N := 15) hx hb hts inlX9 hown hK hPD.1 0 rfl rfl 0 (by decide) (hts _ gw_363) (fun _ h9 => h9) rfl dX9_feed_19 ?_
    refine lv_iload_n hx hb dX9_feed_22 rfl (lv_at hl 1 rfl) ?_
    obtain ⟨q_1, hq_1, h⟩ := ob2 h
    refine kVV (As := [.int p1]) (rest := []) C0 (kt_X7_append l G (a0 0) a1 f1 A1 p1 hq_1) gi_V_X9_128_X7_append (n := 1) rfl (by decide +kernel) rfl ⟨rfl, rfl, Nat.le_of_ble_eq_true rfl, Nat.le_of_ble_eq_true rfl⟩ hPD hS 2 7 rfl rfl rfl [2, 3] [0, 1] [0, 1, 2, 3] (wr := (wX9 G h0 a0 wk f0 A0)) (wN := (wX9 G h0 a0 wk f0 A0 ++ (wX7 G (a0 0) a1 q_1.2 q_1.1))) rfl rfl rfl rfl rfl hl.1 (Nat.le_of_ble_eq_true rfl) dX9_feed_23 (fun H locs hPD hS => ?_)
    refine lv_aload_n hx hb dX9_feed_26 rfl (lv_at hl 0 rfl) ?_
    refine va_get (D := G.1) (ci := 9) (v := .ref (a0 0)) (C := RX9) (T := TX9) (N := 15) hx hb hts inlX9 hown hK hPD.1 0 rfl rfl 0 (by decide) (hts _ gw_363) (fun _ h9 => h9) rfl dX9_feed_27 ?_
    refine lv_iload_n hx hb dX9_feed_30 rfl (lv_at hl 2 rfl) ?_
    obtain ⟨q_2, hq_2, h⟩ := ob2 h
    refine kVV (As := [.int p2]) (rest := []) C0 (kt_X7_append l G (a0 0) a1 q_1.2 q_1.1 p2 hq_2) gi_V_X9_128_X7_append (n := 1) rfl (by decide +kernel) rfl ⟨rfl, rfl, Nat.le_of_ble_eq_true rfl, Nat.le_of_ble_eq_true rfl⟩ hPD hS 2 7 rfl rfl rfl [2, 3] [0, 1] [0, 1, 2, 3] (wr := (wX9 G h0 a0 wk f0 A0)) (wN := (wX9 G h0 a0 wk f0 A0 ++ (wX7 G (a0 0) a1 q_2.2 q_2.1))) rfl rfl rfl rfl rfl hl.1 (Nat.le_of_ble_eq_true rfl) dX9_feed_31 (fun H locs hPD hS => ?_)
    refine lv_aload_n hx hb dX9_feed_34 rfl (lv_at hl 0 rfl) ?_
    refine va_get (D := G.1) (ci := 9) (v := .ref (a0 0)) (C := RX9) (T := TX9) (N := 15) hx hb hts inlX9 hown hK hPD.1 0 rfl rfl 0 (by decide) (hts _ gw_363) (fun _ h9 => h9) rfl dX9_feed_35 ?_
    refine lv_iload_n hx hb dX9_feed_38 rfl (lv_at hl 3 rfl) ?_
    obtain ⟨q_3, hq_3, h⟩ := ob2 h
    refine kVV (As := [.int p3]) (rest := []) C0 (kt_X7_append l G (a0 0) a1 q_2.2 q_2.1 p3 hq_3) gi_V_X9_128_X7_append (n := 1) rfl (by decide +kernel) rfl ⟨rfl, rfl, Nat.le_of_ble_eq_true rfl, Nat.le_of_ble_eq_true rfl⟩ hPD hS 2 7 rfl rfl rfl [2, 3] [0, 1] [0, 1, 2, 3] (wr := (wX9 G h0 a0 wk f0 A0)) (wN := (wX9 G h0 a0 wk f0 A0 ++ (wX7 G (a0 0) a1 q_3.2 q_3.1))) rfl rfl rfl rfl rfl hl.1 (Nat.le_of_ble_eq_true rfl) dX9_feed_39 (fun H locs hPD hS => ?_)
    refine lv_aload_n hx hb dX9_feed_42 rfl (lv_at hl 0 rfl) ?_
    refine va_get (D := G.1) (ci := 9) (v := .ref (a0 0)) (C := RX9) (T := TX9) (N := 15) hx hb hts inlX9 hown hK hPD.1 0 rfl rfl 0 (by decide) (hts _ gw_363) (fun _ h9 => h9) rfl dX9_feed_43 ?_
    refine lv_iload hx hb dX9_feed_46 (lv_at hl 4 rfl) ?_
    obtain ⟨q_4, hq_4, h⟩ := ob2 h
    refine kVV (As := [.int p4]) (rest := []) C0 (kt_X7_append l G (a0 0) a1 q_3.2 q_3.1 p4 hq_4) gi_V_X9_128_X7_append (n := 1) rfl (by decide +kernel) rfl ⟨rfl, rfl, Nat.le_of_ble_eq_true rfl, Nat.le_of_ble_eq_true rfl⟩ hPD hS 2 7 rfl rfl rfl [2, 3] [0, 1] [0, 1, 2, 3] (wr := (wX9 G h0 a0 wk f0 A0)) (wN := (wX9 G h0 a0 wk f0 A0 ++ (wX7 G (a0 0) a1 q_4.2 q_4.1))) rfl rfl rfl rfl rfl hl.1 (Nat.le_of_ble_eq_true rfl) dX9_feed_48 (fun H locs hPD hS => ?_)
    refine lv_aload_n hx hb dX9_feed_51 rfl (lv_at hl 0 rfl) ?_
    refine va_get (D := G.1) (ci := 9) (v := .ref (a0 0)) (C := RX9) (T := TX9) (N := 15) hx hb hts inlX9 hown hK hPD.1 0 rfl rfl 0 (by decide) (hts _ gw_363) (fun _ h9 => h9) rfl dX9_feed_52 ?_
    refine lv_iload hx hb dX9_feed_55 (lv_at hl 5 rfl) ?_
    obtain ⟨q_5, hq_5, h⟩ := ob2 h
    refine kVV (As := [.int p5]) (rest := []) C0 (kt_X7_append l G (a0 0) a1 q_4.2 q_4.1 p5 hq_5) gi_V_X9_128_X7_append (n := 1) rfl (by decide +kernel) rfl ⟨rfl, rfl, Nat.le_of_ble_eq_true rfl, Nat.le_of_ble_eq_true rfl⟩ hPD hS 2 7 rfl rfl rfl [2, 3] [0, 1] [0, 1, 2, 3] (wr := (wX9 G h0 a0 wk f0 A0)) (wN := (wX9 G h0 a0 wk f0 A0 ++ (wX7 G (a0 0) a1 q_5.2 q_5.1))) rfl rfl rfl rfl rfl hl.1 (Nat.le_of_ble_eq_true rfl) dX9_feed_57 (fun H locs hPD hS => ?_)
    refine lv_aload_n hx hb dX9_feed_60 rfl (lv_at hl 0 rfl) ?_
    refine va_get (D := G.1) (ci := 9) (v := .ref (a0 0)) (C := RX9) (T := TX9) (N := 15) hx hb hts inlX9 hown hK hPD.1 0 rfl rfl 0 (by decide) (hts _ gw_363) (fun _ h9 => h9) rfl dX9_feed_61 ?_
    refine va_get (D := G.1) (ci := 7) (v := .int (q_5.2 1)) (C := RX7) (T := TX7) (N := 6) hx hb hts inlX7 hown hK hPD.1 2 rfl rfl 1 (by decide) (hts _ gw_364) (fun _ h9 => h9) rfl dX9_feed_64 ?_
    obtain rfl := Option.some.inj h
    exact eI C0 hPD.1 hPD.2 hS rfl dX9_feed_67
  · have h := (if_neg cc1).symm.trans h
    refine lv_iconst (v := (-1)) hx hb dX9_feed_16 (by decide) ?_
    obtain rfl := Option.some.inj h
    exact eI C0 hPD.1 hPD.2 hS rfl dX9_feed_17
abbrev rmX9_law : Room := { frames := 70, cells := 0, slots := 0, locals := 1671 }
set_option maxRecDepth 100000 in
set_option maxHeartbeats 4000000 in
theorem kt_X9_law (l : Launch) (G : Gp) (h0 : Nat) (a0 : Nat → Nat) (wk : Option Nat) (a1 : Nat → Nat) (a2 : Nat → Nat) (a3 : Nat → Nat) (f0 : Nat → Int32) (A0 : Nat → Nat → Int32) (f1 : Nat → Int32) (A1 : Nat → Nat → Int32) (f2 : Nat → Int32) (A2 : Nat → Nat → Int32) (f3 : Nat → Int32) (A3 : Nat → Nat → Int32) (p1 : Int32) : ∀ {r : Int32 × (Nat → Int32) × (Nat → Nat → Int32) × (Nat → Int32) × (Nat → Nat → Int32) × (Nat → Int32)}, f9_law f0 A0 f1 A1 f2 A2 f3 A3 p1 = some r → CtrIE l yX9_law cX9_law 3 (some .int) rmX9_law G [.ref h0, .int p1] (wX9 G h0 a0 wk f0 A0 ++ (wX7 G (a0 0) a1 f1 A1 ++ (wX2 G (a0 11) a2 f2 A2 ++ (wX2 G (a0 12) a3 f3 A3)))) r.1 (fun w : Option Nat => match w with | none => (wX9 G h0 a0 wk f0 A0 ++ (wX7 G (a0 0) a1 r.2.1 A1 ++ (wX2 G (a0 11) a2 r.2.2.2.1 r.2.2.1 ++ (wX2 G (a0 12) a3 r.2.2.2.2.2 r.2.2.2.2.1)))) | some j => (wX9 G h0 (va_up (va_up a0 11 (a0 12)) 12 (a0 11)) wk f0 A0 ++ (wX7 G (a0 0) a1 r.2.1 A1 ++ (wX2 G (a0 12) a3 r.2.2.2.1 r.2.2.1 ++ (wX2 G (a0 11) a2 r.2.2.2.2.2 r.2.2.2.2.1))))) := by
  intro res h
  refine ctrIE_of (cc := cX9_law) (maxL := 3) (ret := (some .int)) (by decide +kernel) rfl (Nat.le_of_ble_eq_true rfl) (fun p e s m below meth c DA C0 hP hD ls hl => ?_)
  have hPD : WD G DA (wX9 G h0 a0 wk f0 A0 ++ (wX7 G (a0 0) a1 f1 A1 ++ (wX2 G (a0 11) a2 f2 A2 ++ (wX2 G (a0 12) a3 f3 A3)))) s.heap := ⟨hP, hD⟩
  have hS : va_S DA s.heap s.heap [] := va_S.rf
  have hl : lv_has ls 3 [(0, .ref h0), (1, .int p1)] := hl
  obtain ⟨hx, hb, hml, hown, hts⟩ := C0.1
  have hK := C0.2.2.2.1
  unfold f9_law at h
  refine lv_iload_n hx hb dX9_law_0 rfl (lv_at hl 1 rfl) ?_
  refine lv_iconst (v := 1) hx hb dX9_law_1 (by decide) ?_
  refine lv_sipush (v := 240) hx hb dX9_law_2 (by decide) ?_
  refine kSI (As := [.int p1, .int 1, .int 240]) (rest := []) C0 (kt_X9_within l G  p1 1 240) gi_S_X9_90_X9_within (n := 3) rfl (by decide +kernel) ⟨rfl, rfl, Nat.le_of_ble_eq_true rfl, Nat.le_of_ble_eq_true rfl⟩ hPD hS [] [0, 1, 2, 3, 4, 5, 6, 7, 8, 9, 10, 11, 12, 13, 14, 15, 16, 17, 18, 19] [0, 1, 2, 3, 4, 5, 6, 7, 8, 9, 10, 11, 12, 13, 14, 15, 16, 17, 18, 19] (wr := (wX9 G h0 a0 wk f0 A0 ++ (wX7 G (a0 0) a1 f1 A1 ++ (wX2 G (a0 11) a2 f2 A2 ++ (wX2 G (a0 12) a3 f3 A3))))) (wN := (wX9 G h0 a0 wk f0 A0 ++ (wX7 G (a0 0) a1 f1 A1 ++ (wX2 G (a0 11) a2 f2 A2 ++ (wX2 G (a0 12) a3 f3 A3))))) rfl rfl rfl rfl rfl hl.1 (Nat.le_of_ble_eq_true rfl) dX9_law_5 (fun H locs hPD hS => ?_)
  refine lv_if_eq (tgt := 22) hx hb dX9_law_8 (by decide) (fun cc1 => ?_) (fun cc1 => ?_)
  · have h := (if_pos cc1).symm.trans h
    refine lv_iconst (v := (-1)) hx hb dX9_law_22 (by decide) ?_
    obtain rfl := Option.some.inj h
    exact eIE (none) C0 hPD [0, 1, 2, 3, 4, 5, 6, 7, 8, 9, 10, 11, 12, 13, 14, 15, 16, 17, 18, 19] rfl rfl hS rfl dX9_law_23
  · have h := (if_neg cc1).symm.trans h
    refine lv_aload_n hx hb dX9_law_11 rfl (lv_at hl 0 rfl) ?_
    refine va_get (D := G.1) (ci := 9) (v := .ref (a0 0)) (C := RX9) (T := TX9) (N := 15) hx hb hts inlX9 hown hK hPD.1 0 rfl rfl 0 (by decide) (hts _ gw_363) (fun _ h9 => h9) rfl dX9_law_12 ?_
    refine lv_iload_n hx hb dX9_law_15 rfl (lv_at hl 1 rfl) ?_
    refine kVI (As := [.int p1]) (rest := []) C0 (kt_X7_holds l G (a0 0) a1 f1 A1 p1) gi_V_X9_132_X7_holds (n := 1) rfl (by decide +kernel) rfl ⟨rfl, rfl, Nat.le_of_ble_eq_true rfl, Nat.le_of_ble_eq_true rfl⟩ hPD hS 2 7 rfl rfl rfl [2, 3] [0, 1, 4, 5, 6, 7, 8, 9, 10, 11, 12, 13, 14, 15, 16, 17, 18, 19] [0, 1, 18, 19, 2, 3, 4, 5, 6, 7, 8, 9, 10, 11, 12, 13, 14, 15, 16, 17] (wr := (wX9 G h0 a0 wk f0 A0 ++ (wX2 G (a0 11) a2 f2 A2 ++ (wX2 G (a0 12) a3 f3 A3)))) (wN := (wX9 G h0 a0 wk f0 A0 ++ (wX7 G (a0 0) a1 f1 A1 ++ (wX2 G (a0 11) a2 f2 A2 ++ (wX2 G (a0 12) a3 f3 A3))))) rfl rfl rfl rfl rfl hl.1 (Nat.le_of_ble_eq_true rfl) dX9_law_16 (fun H locs hPD hS => ?_)
    refine lv_if_ne (tgt := 24) hx hb dX9_law_19 (by decide) (fun cc1 => ?_) (fun cc1 => ?_)
    · have h := (if_neg cc1).symm.trans h
      refine lv_aload_n hx hb dX9_law_24 rfl (lv_at hl 0 rfl) ?_
      refine va_get (D := G.1) (ci := 9) (v := .ref (a0 0)) (C := RX9) (T := TX9) (N := 15) hx hb hts inlX9 hown hK hPD.1 0 rfl rfl 0 (by decide) (hts _ gw_363) (fun _ h9 => h9) rfl dX9_law_25 ?_
      refine lv_iload_n hx hb dX9_law_28 rfl (lv_at hl 1 rfl) ?_
      obtain ⟨z_1, ez_1, h⟩ := lvl h
      have kc := kt_X7_open l G (a0 0) a1 f1 A1 p1
      rw [← ez_1] at kc
      clear ez_1
      refine kVV (As := [.int p1]) (rest := []) C0 (kc) gi_V_X9_135_X7_open (n := 1) rfl (by decide +kernel) rfl ⟨rfl, rfl, Nat.le_of_ble_eq_true rfl, Nat.le_of_ble_eq_true rfl⟩ hPD hS 2 7 rfl rfl rfl [2, 3] [0, 1, 4, 5, 6, 7, 8, 9, 10, 11, 12, 13, 14, 15, 16, 17, 18, 19] [0, 1, 18, 19, 2, 3, 4, 5, 6, 7, 8, 9, 10, 11, 12, 13, 14, 15, 16, 17] (wr := (wX9 G h0 a0 wk f0 A0 ++ (wX2 G (a0 11) a2 f2 A2 ++ (wX2 G (a0 12) a3 f3 A3)))) (wN := (wX9 G h0 a0 wk f0 A0 ++ (wX7 G (a0 0) a1 z_1 A1 ++ (wX2 G (a0 11) a2 f2 A2 ++ (wX2 G (a0 12) a3 f3 A3))))) rfl rfl rfl rfl rfl hl.1 (Nat.le_of_ble_eq_true rfl) dX9_law_29 (fun H locs hPD hS => ?_)
      refine lv_aload_n hx hb dX9_law_32 rfl (lv_at hl 0 rfl) ?_
      refine va_get (D := G.1) (ci := 9) (v := .ref (a0 12)) (C := RX9) (T := TX9) (N := 15) hx hb hts inlX9 hown hK hPD.1 0 rfl rfl 12 (by decide) (hts _ gw_377) (fun _ h9 => h9) rfl dX9_law_33 ?_
      refine lv_aload_n hx hb dX9_law_36 rfl (lv_at hl 0 rfl) ?_
      refine va_get (D := G.1) (ci := 9) (v := .ref (a0 0)) (C := RX9) (T := TX9) (N := 15) hx hb hts inlX9 hown hK hPD.1 0 rfl rfl 0 (by decide) (hts _ gw_363) (fun _ h9 => h9) rfl dX9_law_37 ?_
      obtain ⟨q_2, hq_2, h⟩ := ob2 h
      refine kVV (As := [.ref (a0 0)]) (rest := []) C0 (kt_X2_read l G (a0 12) a3 (a0 0) a1 f3 A3 z_1 A1 hq_2) gi_V_X9_138_X2_read (n := 1) rfl (by decide +kernel) rfl ⟨rfl, rfl, Nat.le_of_ble_eq_true rfl, Nat.le_of_ble_eq_true rfl⟩ hPD hS 12 2 rfl rfl rfl [12, 13, 14, 15, 16, 17, 18, 19, 2, 3] [0, 1, 4, 5, 6, 7, 8, 9, 10, 11] [0, 1, 18, 19, 2, 3, 4, 5, 6, 7, 8, 9, 10, 11, 12, 13, 14, 15, 16, 17] (wr := (wX9 G h0 a0 wk f0 A0 ++ (wX2 G (a0 11) a2 f2 A2))) (wN := (wX9 G h0 a0 wk f0 A0 ++ (wX7 G (a0 0) a1 q_2.2.2 A1 ++ (wX2 G (a0 11) a2 f2 A2 ++ (wX2 G (a0 12) a3 q_2.2.1 q_2.1))))) rfl rfl rfl rfl rfl hl.1 (Nat.le_of_ble_eq_true rfl) dX9_law_40 (fun H locs hPD hS => ?_)
      refine lv_aload_n hx hb dX9_law_43 rfl (lv_at hl 0 rfl) ?_
      refine va_get (D := G.1) (ci := 9) (v := .ref (a0 0)) (C := RX9) (T := TX9) (N := 15) hx hb hts inlX9 hown hK hPD.1 0 rfl rfl 0 (by decide) (hts _ gw_363) (fun _ h9 => h9) rfl dX9_law_44 ?_
      refine kVI (As := []) (rest := []) C0 (kt_X7_isFine l G (a0 0) a1 q_2.2.2 A1) gi_V_X9_142_X7_isFine (n := 0) rfl (by decide +kernel) rfl ⟨rfl, rfl, Nat.le_of_ble_eq_true rfl, Nat.le_of_ble_eq_true rfl⟩ hPD hS 2 7 rfl rfl rfl [2, 3] [0, 1, 4, 5, 6, 7, 8, 9, 10, 11, 12, 13, 14, 15, 16, 17, 18, 19] [0, 1, 18, 19, 2, 3, 4, 5, 6, 7, 8, 9, 10, 11, 12, 13, 14, 15, 16, 17] (wr := (wX9 G h0 a0 wk f0 A0 ++ (wX2 G (a0 11) a2 f2 A2 ++ (wX2 G (a0 12) a3 q_2.2.1 q_2.1)))) (wN := (wX9 G h0 a0 wk f0 A0 ++ (wX7 G (a0 0) a1 q_2.2.2 A1 ++ (wX2 G (a0 11) a2 f2 A2 ++ (wX2 G (a0 12) a3 q_2.2.1 q_2.1))))) rfl rfl rfl rfl rfl hl.1 (Nat.le_of_ble_eq_true rfl) dX9_law_47 (fun H locs hPD hS => ?_)
      refine lv_if_eq (tgt := 71) hx hb dX9_law_50 (by decide) (fun cc1 => ?_) (fun cc1 => ?_)
      · have h := (if_pos cc1).symm.trans h
        refine lv_aload_n hx hb dX9_law_71 rfl (lv_at hl 0 rfl) ?_
        refine va_get (D := G.1) (ci := 9) (v := .ref (a0 0)) (C := RX9) (T := TX9) (N := 15) hx hb hts inlX9 hown hK hPD.1 0 rfl rfl 0 (by decide) (hts _ gw_363) (fun _ h9 => h9) rfl dX9_law_72 ?_
        refine lv_aload_n hx hb dX9_law_75 rfl (lv_at hl 0 rfl) ?_
        refine va_get (D := G.1) (ci := 9) (v := .ref (a0 11)) (C := RX9) (T := TX9) (N := 15) hx hb hts inlX9 hown hK hPD.1 0 rfl rfl 11 (by decide) (hts _ gw_383) (fun _ h9 => h9) rfl dX9_law_76 ?_
        refine va_get (D := G.1) (ci := 2) (v := .int (f2 9)) (C := RX2) (T := TX2) (N := 10) hx hb hts inlX2 hown hK hPD.1 4 rfl rfl 9 (by decide) (hts _ gw_384) (fun _ h9 => h9) rfl dX9_law_79 ?_
        refine kVI (As := [.int (f2 9)]) (rest := []) C0 (kt_X7_answer l G (a0 0) a1 q_2.2.2 A1 (f2 9)) gi_V_X9_149_X7_answer (n := 1) rfl (by decide +kernel) rfl ⟨rfl, rfl, Nat.le_of_ble_eq_true rfl, Nat.le_of_ble_eq_true rfl⟩ hPD hS 2 7 rfl rfl rfl [2, 3] [0, 1, 4, 5, 6, 7, 8, 9, 10, 11, 12, 13, 14, 15, 16, 17, 18, 19] [0, 1, 18, 19, 2, 3, 4, 5, 6, 7, 8, 9, 10, 11, 12, 13, 14, 15, 16, 17] (wr := (wX9 G h0 a0 wk f0 A0 ++ (wX2 G (a0 11) a2 f2 A2 ++ (wX2 G (a0 12) a3 q_2.2.1 q_2.1)))) (wN := (wX9 G h0 a0 wk f0 A0 ++ (wX7 G (a0 0) a1 q_2.2.2 A1 ++ (wX2 G (a0 11) a2 f2 A2 ++ (wX2 G (a0 12) a3 q_2.2.1 q_2.1))))) rfl rfl rfl rfl rfl hl.1 (Nat.le_of_ble_eq_true rfl) dX9_law_82 (fun H locs hPD hS => ?_)
        obtain rfl := Option.some.inj h
        exact eIE (none) C0 hPD [0, 1, 2, 3, 4, 5, 6, 7, 8, 9, 10, 11, 12, 13, 14, 15, 16, 17, 18, 19] rfl rfl hS rfl dX9_law_85
      · have h := (if_neg cc1).symm.trans h
        refine lv_aload_n hx hb dX9_law_53 rfl (lv_at hl 0 rfl) ?_
        refine va_get (D := G.1) (ci := 9) (v := .ref (a0 11)) (C := RX9) (T := TX9) (N := 15) hx hb hts inlX9 hown hK hPD.1 0 rfl rfl 11 (by decide) (hts _ gw_383) (fun _ h9 => h9) rfl dX9_law_54 ?_
        refine lv_astore_n (lv' := [(2, .ref (a0 11)), (0, .ref h0), (1, .int p1)]) hx hb dX9_law_57 rfl hl (by decide) rfl (fun ls hl => ?_)
        refine lv_aload_n hx hb dX9_law_58 rfl (lv_at hl 1 rfl) ?_
        refine lv_aload_n hx hb dX9_law_59 rfl (lv_at hl 1 rfl) ?_
        refine va_get (D := G.1) (ci := 9) (v := .ref (a0 12)) (C := RX9) (T := TX9) (N := 15) hx hb hts inlX9 hown hK hPD.1 0 rfl rfl 12 (by decide) (hts _ gw_377) (fun _ h9 => h9) rfl dX9_law_60 ?_
        refine va_put (D := G.1) (ci := 9) (v := .ref (a0 12)) (ty := .object "IdleCrimes$Law") (C := RX9) (T := TX9) (N := 15) hx hb hts inlX9 tyX9 tyX9_ok nmX9 hown hK hPD.1 hPD.2 hS 0 rfl rfl 11 (by decide) (hts _ gw_383) (fun _ h9 => h9) rfl (by decide +kernel) rfl rfl (Nat.le_of_ble_eq_true rfl) dX9_law_63 (fun H locs hP hD hS => ?_)
        have hPD : WD G DA (wX9 G h0 (va_up a0 11 (a0 12)) wk f0 A0 ++ (wX7 G (a0 0) a1 q_2.2.2 A1 ++ (wX2 G (a0 11) a2 f2 A2 ++ (wX2 G (a0 12) a3 q_2.2.1 q_2.1)))) H := ⟨hP, hD⟩
        clear hP hD
        refine lv_aload_n hx hb dX9_law_66 rfl (lv_at hl 1 rfl) ?_
        refine lv_aload_n hx hb dX9_law_67 rfl (lv_at hl 0 rfl) ?_
        refine va_put (D := G.1) (ci := 9) (v := .ref (a0 11)) (ty := .object "IdleCrimes$Law") (C := RX9) (T := TX9) (N := 15) hx hb hts inlX9 tyX9 tyX9_ok nmX9 hown hK hPD.1 hPD.2 hS 0 rfl rfl 12 (by decide) (hts _ gw_377) (fun _ h9 => h9) rfl (by decide +kernel) rfl rfl (Nat.le_of_ble_eq_true rfl) dX9_law_68 (fun H locs hP hD hS => ?_)
        have hPD : WD G DA (wX9 G h0 (va_up (va_up a0 11 (a0 12)) 12 (a0 11)) wk f0 A0 ++ (wX7 G (a0 0) a1 q_2.2.2 A1 ++ (wX2 G (a0 11) a2 f2 A2 ++ (wX2 G (a0 12) a3 q_2.2.1 q_2.1)))) H := ⟨hP, hD⟩
        clear hP hD
        refine lv_aload_n hx hb dX9_law_71 rfl (lv_at hl 1 rfl) ?_
        refine va_get (D := G.1) (ci := 9) (v := .ref (a0 0)) (C := RX9) (T := TX9) (N := 15) hx hb hts inlX9 hown hK hPD.1 0 rfl rfl 0 (by decide) (hts _ gw_363) (fun _ h9 => h9) rfl dX9_law_72 ?_
        refine lv_aload_n hx hb dX9_law_75 rfl (lv_at hl 1 rfl) ?_
        refine va_get (D := G.1) (ci := 9) (v := .ref (a0 12)) (C := RX9) (T := TX9) (N := 15) hx hb hts inlX9 hown hK hPD.1 0 rfl rfl 11 (by decide) (hts _ gw_383) (fun _ h9 => h9) rfl dX9_law_76 ?_
        refine va_get (D := G.1) (ci := 2) (v := .int (q_2.2.1 9)) (C := RX2) (T := TX2) (N := 10) hx hb hts inlX2 hown hK hPD.1 12 rfl rfl 9 (by decide) (hts _ gw_384) (fun _ h9 => h9) rfl dX9_law_79 ?_
        refine kVI (As := [.int (q_2.2.1 9)]) (rest := []) C0 (kt_X7_answer l G (a0 0) a1 q_2.2.2 A1 (q_2.2.1 9)) gi_V_X9_149_X7_answer (n := 1) rfl (by decide +kernel) rfl ⟨rfl, rfl, Nat.le_of_ble_eq_true rfl, Nat.le_of_ble_eq_true rfl⟩ hPD hS 2 7 rfl rfl rfl [2, 3] [0, 1, 4, 5, 6, 7, 8, 9, 10, 11, 12, 13, 14, 15, 16, 17, 18, 19] [0, 1, 18, 19, 2, 3, 4, 5, 6, 7, 8, 9, 10, 11, 12, 13, 14, 15, 16, 17] (wr := pick (wX9 G h0 (va_up (va_up a0 11 (a0 12)) 12 (a0 11)) wk f0 A0 ++ (wX7 G (a0 0) a1 q_2.2.2 A1 ++ (wX2 G (a0 11) a2 f2 A2 ++ (wX2 G (a0 12) a3 q_2.2.1 q_2.1)))) [0, 1, 4, 5, 6, 7, 8, 9, 10, 11, 12, 13, 14, 15, 16, 17, 18, 19]) (wN := (wX9 G h0 (va_up (va_up a0 11 (a0 12)) 12 (a0 11)) wk f0 A0 ++ (wX7 G (a0 0) a1 q_2.2.2 A1 ++ (wX2 G (a0 11) a2 f2 A2 ++ (wX2 G (a0 12) a3 q_2.2.1 q_2.1))))) rfl rfl rfl rfl rfl hl.1 (Nat.le_of_ble_eq_true rfl) dX9_law_82 (fun H locs hPD hS => ?_)
        obtain rfl := Option.some.inj h
        exact eIE (some 0) C0 hPD [0, 1, 2, 3, 12, 13, 14, 15, 16, 17, 18, 19, 4, 5, 6, 7, 8, 9, 10, 11] rfl rfl hS rfl dX9_law_85
    · have h := (if_pos cc1).symm.trans h
      refine lv_iconst (v := (-1)) hx hb dX9_law_22 (by decide) ?_
      obtain rfl := Option.some.inj h
      exact eIE (none) C0 hPD [0, 1, 2, 3, 4, 5, 6, 7, 8, 9, 10, 11, 12, 13, 14, 15, 16, 17, 18, 19] rfl rfl hS rfl dX9_law_23
abbrev rmX9_beat : Room := { frames := 69, cells := 0, slots := 0, locals := 1773 }
set_option maxRecDepth 100000 in
set_option maxHeartbeats 4000000 in
theorem kt_X9_beat (l : Launch) (G : Gp) (h0 : Nat) (a0 : Nat → Nat) (wk : Option Nat) (a1 : Nat → Nat) (g2 : Nat → Nat) (aB2 : Nat → Nat → Nat) (a3 : Nat → Nat) (f0 : Nat → Int32) (A0 : Nat → Nat → Int32) (f1 : Nat → Int32) (A1 : Nat → Nat → Int32) (fB2 : Nat → Nat → Int32) (AB2 : Nat → Nat → Nat → Int32) (f3 : Nat → Int32) (A3 : Nat → Nat → Int32) (p1 : Int32) (p2 : Int32) : ∀ {r : Int32 × (Nat → Int32) × (Nat → Nat → Nat → Int32) × (Nat → Nat → Int32) × (Nat → Nat → Int32) × (Nat → Int32)}, f9_beat f0 A0 f1 A1 fB2 AB2 f3 A3 p1 p2 = some r → CtrIE l yX9_beat cX9_beat 5 (some .int) rmX9_beat G [.ref h0, .int p1, .int p2] (wX9 G h0 a0 wk f0 A0 ++ (wX7 G (a0 0) a1 f1 A1 ++ (wB G (a0 5) g2 aB2 fB2 AB2 ++ (wX0 G (a0 10) a3 f3 A3)))) r.1 (fun w : Option Nat => match w with | none => (wX9 G h0 a0 wk f0 A0 ++ (wX7 G (a0 0) a1 r.2.1 A1 ++ (wB G (a0 5) g2 aB2 r.2.2.2.1 r.2.2.1 ++ (wX0 G (a0 10) a3 r.2.2.2.2.2 r.2.2.2.2.1)))) | some j => (wX9 G h0 (va_up a0 10 (g2 j)) wk f0 A0 ++ (wX7 G (a0 0) a1 r.2.1 A1 ++ (wB G (a0 5) (va_up g2 j (a0 10)) (va_up aB2 j a3) r.2.2.2.1 r.2.2.1 ++ (wX0 G (g2 j) (aB2 j) r.2.2.2.2.2 r.2.2.2.2.1))))) := by
  intro res h
  refine ctrIE_of (cc := cX9_beat) (maxL := 5) (ret := (some .int)) (by decide +kernel) rfl (Nat.le_of_ble_eq_true rfl) (fun p e s m below meth c DA C0 hP hD ls hl => ?_)
  have hPD : WD G DA (wX9 G h0 a0 wk f0 A0 ++ (wX7 G (a0 0) a1 f1 A1 ++ (wB G (a0 5) g2 aB2 fB2 AB2 ++ (wX0 G (a0 10) a3 f3 A3)))) s.heap := ⟨hP, hD⟩
  have hS : va_S DA s.heap s.heap [] := va_S.rf
  have hl : lv_has ls 5 [(0, .ref h0), (1, .int p1), (2, .int p2)] := hl
  obtain ⟨hx, hb, hml, hown, hts⟩ := C0.1
  have hK := C0.2.2.2.1
  unfold f9_beat at h
  refine lv_iload_n hx hb dX9_beat_0 rfl (lv_at hl 1 rfl) ?_
  refine lv_iconst (v := 0) hx hb dX9_beat_1 (by decide) ?_
  refine lv_aload_n hx hb dX9_beat_2 rfl (lv_at hl 0 rfl) ?_
  refine va_get (D := G.1) (ci := 9) (v := .ref (a0 5)) (C := RX9) (T := TX9) (N := 15) hx hb hts inlX9 hown hK hPD.1 0 rfl rfl 5 (by decide) (hts _ gw_389) (fun _ h9 => h9) rfl dX9_beat_3 ?_
  refine va_alen (v := 8) hx hb hK hPD.1 4 2 rfl rfl rfl dX9_beat_6 ?_
  refine lv_iconst (v := 1) hx hb dX9_beat_7 (by decide) ?_
  refine lv_isub hx hb dX9_beat_8 ?_
  refine kSI (As := [.int p1, .int 0, .int (8 - 1)]) (rest := []) C0 (kt_X9_within l G  p1 0 (8 - 1)) gi_S_X9_90_X9_within (n := 3) rfl (by decide +kernel) ⟨rfl, rfl, Nat.le_of_ble_eq_true rfl, Nat.le_of_ble_eq_true rfl⟩ hPD hS [] [0, 1, 2, 3, 4, 5, 6, 7, 8, 9, 10, 11, 12, 13, 14, 15, 16, 17, 18, 19, 20, 21, 22] [0, 1, 2, 3, 4, 5, 6, 7, 8, 9, 10, 11, 12, 13, 14, 15, 16, 17, 18, 19, 20, 21, 22] (wr := (wX9 G h0 a0 wk f0 A0 ++ (wX7 G (a0 0) a1 f1 A1 ++ (wB G (a0 5) g2 aB2 fB2 AB2 ++ (wX0 G (a0 10) a3 f3 A3))))) (wN := (wX9 G h0 a0 wk f0 A0 ++ (wX7 G (a0 0) a1 f1 A1 ++ (wB G (a0 5) g2 aB2 fB2 AB2 ++ (wX0 G (a0 10) a3 f3 A3))))) rfl rfl rfl rfl rfl hl.1 (Nat.le_of_ble_eq_true rfl) dX9_beat_9 (fun H locs hPD hS => ?_)
  refine lv_if_eq (tgt := 36) hx hb dX9_beat_12 (by decide) (fun cc1 => ?_) (fun cc1 => ?_)
  · have h := (if_pos cc1).symm.trans h
    refine lv_iconst (v := (-1)) hx hb dX9_beat_36 (by decide) ?_
    obtain rfl := Option.some.inj h
    exact eIE (none) C0 hPD [0, 1, 2, 3, 4, 5, 6, 7, 8, 9, 10, 11, 12, 13, 14, 15, 16, 17, 18, 19, 20, 21, 22] rfl rfl hS rfl dX9_beat_37
  · have h := (if_neg cc1).symm.trans h
    refine lv_iload_n hx hb dX9_beat_15 rfl (lv_at hl 2 rfl) ?_
    refine lv_iconst (v := 1) hx hb dX9_beat_16 (by decide) ?_
    refine lv_bipush (v := 60) hx hb dX9_beat_17 (by decide) ?_
    refine kSI (As := [.int p2, .int 1, .int 60]) (rest := []) C0 (kt_X9_within l G  p2 1 60) gi_S_X9_90_X9_within (n := 3) rfl (by decide +kernel) ⟨rfl, rfl, Nat.le_of_ble_eq_true rfl, Nat.le_of_ble_eq_true rfl⟩ hPD hS [] [0, 1, 2, 3, 4, 5, 6, 7, 8, 9, 10, 11, 12, 13, 14, 15, 16, 17, 18, 19, 20, 21, 22] [0, 1, 2, 3, 4, 5, 6, 7, 8, 9, 10, 11, 12, 13, 14, 15, 16, 17, 18, 19, 20, 21, 22] (wr := (wX9 G h0 a0 wk f0 A0 ++ (wX7 G (a0 0) a1 f1 A1 ++ (wB G (a0 5) g2 aB2 fB2 AB2 ++ (wX0 G (a0 10) a3 f3 A3))))) (wN := (wX9 G h0 a0 wk f0 A0 ++ (wX7 G (a0 0) a1 f1 A1 ++ (wB G (a0 5) g2 aB2 fB2 AB2 ++ (wX0 G (a0 10) a3 f3 A3))))) rfl rfl rfl rfl rfl hl.1 (Nat.le_of_ble_eq_true rfl) dX9_beat_19 (fun H locs hPD hS => ?_)
    refine lv_if_eq (tgt := 36) hx hb dX9_beat_22 (by decide) (fun cc1 => ?_) (fun cc1 => ?_)
    · have h := (if_pos cc1).symm.trans h
      refine lv_iconst (v := (-1)) hx hb dX9_beat_36 (by decide) ?_
      obtain rfl := Option.some.inj h
      exact eIE (none) C0 hPD [0, 1, 2, 3, 4, 5, 6, 7, 8, 9, 10, 11, 12, 13, 14, 15, 16, 17, 18, 19, 20, 21, 22] rfl rfl hS rfl dX9_beat_37
    · have h := (if_neg cc1).symm.trans h
      refine lv_aload_n hx hb dX9_beat_25 rfl (lv_at hl 0 rfl) ?_
      refine va_get (D := G.1) (ci := 9) (v := .ref (a0 0)) (C := RX9) (T := TX9) (N := 15) hx hb hts inlX9 hown hK hPD.1 0 rfl rfl 0 (by decide) (hts _ gw_363) (fun _ h9 => h9) rfl dX9_beat_26 ?_
      refine lv_iload_n hx hb dX9_beat_29 rfl (lv_at hl 2 rfl) ?_
      refine kVI (As := [.int p2]) (rest := []) C0 (kt_X7_holds l G (a0 0) a1 f1 A1 p2) gi_V_X9_132_X7_holds (n := 1) rfl (by decide +kernel) rfl ⟨rfl, rfl, Nat.le_of_ble_eq_true rfl, Nat.le_of_ble_eq_true rfl⟩ hPD hS 2 7 rfl rfl rfl [2, 3] [0, 1, 4, 5, 6, 7, 8, 9, 10, 11, 12, 13, 14, 15, 16, 17, 18, 19, 20, 21, 22] [0, 1, 21, 22, 2, 3, 4, 5, 6, 7, 8, 9, 10, 11, 12, 13, 14, 15, 16, 17, 18, 19, 20] (wr := (wX9 G h0 a0 wk f0 A0 ++ (wB G (a0 5) g2 aB2 fB2 AB2 ++ (wX0 G (a0 10) a3 f3 A3)))) (wN := (wX9 G h0 a0 wk f0 A0 ++ (wX7 G (a0 0) a1 f1 A1 ++ (wB G (a0 5) g2 aB2 fB2 AB2 ++ (wX0 G (a0 10) a3 f3 A3))))) rfl rfl rfl rfl rfl hl.1 (Nat.le_of_ble_eq_true rfl) dX9_beat_30 (fun H locs hPD hS => ?_)
      refine lv_if_ne (tgt := 38) hx hb dX9_beat_33 (by decide) (fun cc1 => ?_) (fun cc1 => ?_)
      · have h := (if_neg cc1).symm.trans h
        refine lv_aload_n hx hb dX9_beat_38 rfl (lv_at hl 0 rfl) ?_
        refine va_get (D := G.1) (ci := 9) (v := .ref (a0 0)) (C := RX9) (T := TX9) (N := 15) hx hb hts inlX9 hown hK hPD.1 0 rfl rfl 0 (by decide) (hts _ gw_363) (fun _ h9 => h9) rfl dX9_beat_39 ?_
        refine lv_iload_n hx hb dX9_beat_42 rfl (lv_at hl 2 rfl) ?_
        obtain ⟨z_1, ez_1, h⟩ := lvl h
        have kc := kt_X7_open l G (a0 0) a1 f1 A1 p2
        rw [← ez_1] at kc
        clear ez_1
        refine kVV (As := [.int p2]) (rest := []) C0 (kc) gi_V_X9_135_X7_open (n := 1) rfl (by decide +kernel) rfl ⟨rfl, rfl, Nat.le_of_ble_eq_true rfl, Nat.le_of_ble_eq_true rfl⟩ hPD hS 2 7 rfl rfl rfl [2, 3] [0, 1, 4, 5, 6, 7, 8, 9, 10, 11, 12, 13, 14, 15, 16, 17, 18, 19, 20, 21, 22] [0, 1, 21, 22, 2, 3, 4, 5, 6, 7, 8, 9, 10, 11, 12, 13, 14, 15, 16, 17, 18, 19, 20] (wr := (wX9 G h0 a0 wk f0 A0 ++ (wB G (a0 5) g2 aB2 fB2 AB2 ++ (wX0 G (a0 10) a3 f3 A3)))) (wN := (wX9 G h0 a0 wk f0 A0 ++ (wX7 G (a0 0) a1 z_1 A1 ++ (wB G (a0 5) g2 aB2 fB2 AB2 ++ (wX0 G (a0 10) a3 f3 A3))))) rfl rfl rfl rfl rfl hl.1 (Nat.le_of_ble_eq_true rfl) dX9_beat_43 (fun H locs hPD hS => ?_)
        refine lv_aload_n hx hb dX9_beat_46 rfl (lv_at hl 0 rfl) ?_
        refine va_get (D := G.1) (ci := 9) (v := .ref (a0 10)) (C := RX9) (T := TX9) (N := 15) hx hb hts inlX9 hown hK hPD.1 0 rfl rfl 10 (by decide) (hts _ gw_390) (fun _ h9 => h9) rfl dX9_beat_47 ?_
        refine lv_aload_n hx hb dX9_beat_50 rfl (lv_at hl 0 rfl) ?_
        refine va_get (D := G.1) (ci := 9) (v := .ref (a0 0)) (C := RX9) (T := TX9) (N := 15) hx hb hts inlX9 hown hK hPD.1 0 rfl rfl 0 (by decide) (hts _ gw_363) (fun _ h9 => h9) rfl dX9_beat_51 ?_
        obtain ⟨q_2, hq_2, h⟩ := ob2 h
        refine kVV (As := [.ref (a0 0)]) (rest := []) C0 (kt_X0_read l G (a0 10) a3 (a0 0) a1 f3 A3 z_1 A1 hq_2) gi_V_X9_153_X0_read (n := 1) rfl (by decide +kernel) rfl ⟨rfl, rfl, Nat.le_of_ble_eq_true rfl, Nat.le_of_ble_eq_true rfl⟩ hPD hS 21 0 rfl rfl rfl [21, 22, 2, 3] [0, 1, 4, 5, 6, 7, 8, 9, 10, 11, 12, 13, 14, 15, 16, 17, 18, 19, 20] [0, 1, 21, 22, 2, 3, 4, 5, 6, 7, 8, 9, 10, 11, 12, 13, 14, 15, 16, 17, 18, 19, 20] (wr := (wX9 G h0 a0 wk f0 A0 ++ (wB G (a0 5) g2 aB2 fB2 AB2))) (wN := (wX9 G h0 a0 wk f0 A0 ++ (wX7 G (a0 0) a1 q_2.2.2 A1 ++ (wB G (a0 5) g2 aB2 fB2 AB2 ++ (wX0 G (a0 10) a3 q_2.2.1 q_2.1))))) rfl rfl rfl rfl rfl hl.1 (Nat.le_of_ble_eq_true rfl) dX9_beat_54 (fun H locs hPD hS => ?_)
        refine lv_aload_n hx hb dX9_beat_57 rfl (lv_at hl 0 rfl) ?_
        refine va_get (D := G.1) (ci := 9) (v := .ref (a0 10)) (C := RX9) (T := TX9) (N := 15) hx hb hts inlX9 hown hK hPD.1 0 rfl rfl 10 (by decide) (hts _ gw_390) (fun _ h9 => h9) rfl dX9_beat_58 ?_
        refine va_get (D := G.1) (ci := 0) (v := .int (q_2.2.1 1)) (C := RX0) (T := TX0) (N := 2) hx hb hts inlX0 hown hK hPD.1 21 rfl rfl 1 (by decide) (hts _ gw_395) (fun _ h9 => h9) rfl dX9_beat_61 ?_
        refine lv_istore_n (lv' := [(3, .int (q_2.2.1 1)), (0, .ref h0), (1, .int p1), (2, .int p2)]) hx hb dX9_beat_64 rfl hl (by decide) rfl (fun ls hl => ?_)
        refine lv_aload_n hx hb dX9_beat_65 rfl (lv_at hl 1 rfl) ?_
        refine va_get (D := G.1) (ci := 9) (v := .ref (a0 0)) (C := RX9) (T := TX9) (N := 15) hx hb hts inlX9 hown hK hPD.1 0 rfl rfl 0 (by decide) (hts _ gw_363) (fun _ h9 => h9) rfl dX9_beat_66 ?_
        refine kVI (As := []) (rest := []) C0 (kt_X7_isFine l G (a0 0) a1 q_2.2.2 A1) gi_V_X9_142_X7_isFine (n := 0) rfl (by decide +kernel) rfl ⟨rfl, rfl, Nat.le_of_ble_eq_true rfl, Nat.le_of_ble_eq_true rfl⟩ hPD hS 2 7 rfl rfl rfl [2, 3] [0, 1, 4, 5, 6, 7, 8, 9, 10, 11, 12, 13, 14, 15, 16, 17, 18, 19, 20, 21, 22] [0, 1, 21, 22, 2, 3, 4, 5, 6, 7, 8, 9, 10, 11, 12, 13, 14, 15, 16, 17, 18, 19, 20] (wr := (wX9 G h0 a0 wk f0 A0 ++ (wB G (a0 5) g2 aB2 fB2 AB2 ++ (wX0 G (a0 10) a3 q_2.2.1 q_2.1)))) (wN := (wX9 G h0 a0 wk f0 A0 ++ (wX7 G (a0 0) a1 q_2.2.2 A1 ++ (wB G (a0 5) g2 aB2 fB2 AB2 ++ (wX0 G (a0 10) a3 q_2.2.1 q_2.1))))) rfl rfl rfl rfl rfl hl.1 (Nat.le_of_ble_eq_true rfl) dX9_beat_69 (fun H locs hPD hS => ?_)
        refine lv_if_eq (tgt := 99) hx hb dX9_beat_72 (by decide) (fun cc1 => ?_) (fun cc1 => ?_)
        · have h := (if_pos cc1).symm.trans h
          refine lv_aload_n hx hb dX9_beat_99 rfl (lv_at hl 1 rfl) ?_
          refine va_get (D := G.1) (ci := 9) (v := .ref (a0 0)) (C := RX9) (T := TX9) (N := 15) hx hb hts inlX9 hown hK hPD.1 0 rfl rfl 0 (by decide) (hts _ gw_363) (fun _ h9 => h9) rfl dX9_beat_100 ?_
          refine lv_iload_n hx hb dX9_beat_103 rfl (lv_at hl 0 rfl) ?_
          refine kVI (As := [.int (q_2.2.1 1)]) (rest := []) C0 (kt_X7_answer l G (a0 0) a1 q_2.2.2 A1 (q_2.2.1 1)) gi_V_X9_149_X7_answer (n := 1) rfl (by decide +kernel) rfl ⟨rfl, rfl, Nat.le_of_ble_eq_true rfl, Nat.le_of_ble_eq_true rfl⟩ hPD hS 2 7 rfl rfl rfl [2, 3] [0, 1, 4, 5, 6, 7, 8, 9, 10, 11, 12, 13, 14, 15, 16, 17, 18, 19, 20, 21, 22] [0, 1, 21, 22, 2, 3, 4, 5, 6, 7, 8, 9, 10, 11, 12, 13, 14, 15, 16, 17, 18, 19, 20] (wr := (wX9 G h0 a0 wk f0 A0 ++ (wB G (a0 5) g2 aB2 fB2 AB2 ++ (wX0 G (a0 10) a3 q_2.2.1 q_2.1)))) (wN := (wX9 G h0 a0 wk f0 A0 ++ (wX7 G (a0 0) a1 q_2.2.2 A1 ++ (wB G (a0 5) g2 aB2 fB2 AB2 ++ (wX0 G (a0 10) a3 q_2.2.1 q_2.1))))) rfl rfl rfl rfl rfl hl.1 (Nat.le_of_ble_eq_true rfl) dX9_beat_104 (fun H locs hPD hS => ?_)
          obtain rfl := Option.some.inj h
          exact eIE (none) C0 hPD [0, 1, 2, 3, 4, 5, 6, 7, 8, 9, 10, 11, 12, 13, 14, 15, 16, 17, 18, 19, 20, 21, 22] rfl rfl hS rfl dX9_beat_107
        · have h := (if_neg cc1).symm.trans h
          refine lv_aload_n hx hb dX9_beat_75 rfl (lv_at hl 1 rfl) ?_
          refine va_get (D := G.1) (ci := 9) (v := .ref (a0 5)) (C := RX9) (T := TX9) (N := 15) hx hb hts inlX9 hown hK hPD.1 0 rfl rfl 5 (by decide) (hts _ gw_389) (fun _ h9 => h9) rfl dX9_beat_76 ?_
          refine lv_iload_n hx hb dX9_beat_79 rfl (lv_at hl 2 rfl) ?_
          obtain ⟨hi_3, h⟩ := ob h
          obtain ⟨b_4, eb_4, h⟩ := lvl h
          have hb_5 := bts_lt hi_3 eb_4
          refine va_aldB hx hb hK hPD.1 4 2 rfl rfl hi_3 eb_4 dX9_beat_80 ?_
          rcases lt8 hb_5 with rfl | rfl | rfl | rfl | rfl | rfl | rfl | rfl
          · refine lv_astore (lv' := [(4, .ref (g2 0)), (3, .int (q_2.2.1 1)), (0, .ref h0), (1, .int p1), (2, .int p2)]) hx hb dX9_beat_81 hl (by decide) rfl (fun ls hl => ?_)
            refine lv_aload_n hx hb dX9_beat_83 rfl (lv_at hl 2 rfl) ?_
            refine va_get (D := G.1) (ci := 9) (v := .ref (a0 5)) (C := RX9) (T := TX9) (N := 15) hx hb hts inlX9 hown hK hPD.1 0 rfl rfl 5 (by decide) (hts _ gw_389) (fun _ h9 => h9) rfl dX9_beat_84 ?_
            refine lv_iload_n hx hb dX9_beat_87 rfl (lv_at hl 3 rfl) ?_
            refine lv_aload_n hx hb dX9_beat_88 rfl (lv_at hl 2 rfl) ?_
            refine va_get (D := G.1) (ci := 9) (v := .ref (a0 10)) (C := RX9) (T := TX9) (N := 15) hx hb hts inlX9 hown hK hPD.1 0 rfl rfl 10 (by decide) (hts _ gw_390) (fun _ h9 => h9) rfl dX9_beat_89 ?_
            refine va_astB hx hb hK hPD.1 hPD.2 hS 4 2 21 0 rfl rfl rfl rfl hi_3 eb_4 dX9_beat_92 (fun H locs hP hD hS => ?_)
            have hPD : WD G DA (wX9 G h0 a0 wk f0 A0 ++ (wX7 G (a0 0) a1 q_2.2.2 A1 ++ ([((a0 5), .inl (G.2.2.2, 8, .inr (.inr (.inr (.inr (fun k => some (va_up g2 0 (a0 10) k))))))), (g2 0, .inr (0, [.ref (aB2 0 0), .int (fB2 0 1)])), (aB2 0 0, .inl (G.2.2.1, 48, .inl (AB2 0 0))), (g2 1, .inr (0, [.ref (aB2 1 0), .int (fB2 1 1)])), (aB2 1 0, .inl (G.2.2.1, 48, .inl (AB2 1 0))), (g2 2, .inr (0, [.ref (aB2 2 0), .int (fB2 2 1)])), (aB2 2 0, .inl (G.2.2.1, 48, .inl (AB2 2 0))), (g2 3, .inr (0, [.ref (aB2 3 0), .int (fB2 3 1)])), (aB2 3 0, .inl (G.2.2.1, 48, .inl (AB2 3 0))), (g2 4, .inr (0, [.ref (aB2 4 0), .int (fB2 4 1)])), (aB2 4 0, .inl (G.2.2.1, 48, .inl (AB2 4 0))), (g2 5, .inr (0, [.ref (aB2 5 0), .int (fB2 5 1)])), (aB2 5 0, .inl (G.2.2.1, 48, .inl (AB2 5 0))), (g2 6, .inr (0, [.ref (aB2 6 0), .int (fB2 6 1)])), (aB2 6 0, .inl (G.2.2.1, 48, .inl (AB2 6 0))), (g2 7, .inr (0, [.ref (aB2 7 0), .int (fB2 7 1)])), (aB2 7 0, .inl (G.2.2.1, 48, .inl (AB2 7 0)))] ++ (wX0 G (a0 10) a3 q_2.2.1 q_2.1)))) H := ⟨hP, hD⟩
            clear hP hD
            refine lv_aload_n hx hb dX9_beat_93 rfl (lv_at hl 2 rfl) ?_
            refine lv_aload hx hb dX9_beat_94 (lv_at hl 0 rfl) ?_
            refine va_put (D := G.1) (ci := 9) (v := .ref (g2 0)) (ty := .object "IdleCrimes$Beat") (C := RX9) (T := TX9) (N := 15) hx hb hts inlX9 tyX9 tyX9_ok nmX9 hown hK hPD.1 hPD.2 hS 0 rfl rfl 10 (by decide) (hts _ gw_390) (fun _ h9 => h9) rfl (by decide +kernel) rfl rfl (Nat.le_of_ble_eq_true rfl) dX9_beat_96 (fun H locs hP hD hS => ?_)
            have hPD : WD G DA (wX9 G h0 (va_up a0 10 (g2 0)) wk f0 A0 ++ (wX7 G (a0 0) a1 q_2.2.2 A1 ++ ([((a0 5), .inl (G.2.2.2, 8, .inr (.inr (.inr (.inr (fun k => some (va_up g2 0 (a0 10) k))))))), (g2 0, .inr (0, [.ref (aB2 0 0), .int (fB2 0 1)])), (aB2 0 0, .inl (G.2.2.1, 48, .inl (AB2 0 0))), (g2 1, .inr (0, [.ref (aB2 1 0), .int (fB2 1 1)])), (aB2 1 0, .inl (G.2.2.1, 48, .inl (AB2 1 0))), (g2 2, .inr (0, [.ref (aB2 2 0), .int (fB2 2 1)])), (aB2 2 0, .inl (G.2.2.1, 48, .inl (AB2 2 0))), (g2 3, .inr (0, [.ref (aB2 3 0), .int (fB2 3 1)])), (aB2 3 0, .inl (G.2.2.1, 48, .inl (AB2 3 0))), (g2 4, .inr (0, [.ref (aB2 4 0), .int (fB2 4 1)])), (aB2 4 0, .inl (G.2.2.1, 48, .inl (AB2 4 0))), (g2 5, .inr (0, [.ref (aB2 5 0), .int (fB2 5 1)])), (aB2 5 0, .inl (G.2.2.1, 48, .inl (AB2 5 0))), (g2 6, .inr (0, [.ref (aB2 6 0), .int (fB2 6 1)])), (aB2 6 0, .inl (G.2.2.1, 48, .inl (AB2 6 0))), (g2 7, .inr (0, [.ref (aB2 7 0), .int (fB2 7 1)])), (aB2 7 0, .inl (G.2.2.1, 48, .inl (AB2 7 0)))] ++ (wX0 G (a0 10) a3 q_2.2.1 q_2.1)))) H := ⟨hP, hD⟩
            clear hP hD
            refine lv_aload_n hx hb dX9_beat_99 rfl (lv_at hl 2 rfl) ?_
            refine va_get (D := G.1) (ci := 9) (v := .ref (a0 0)) (C := RX9) (T := TX9) (N := 15) hx hb hts inlX9 hown hK hPD.1 0 rfl rfl 0 (by decide) (hts _ gw_363) (fun _ h9 => h9) rfl dX9_beat_100 ?_
            refine lv_iload_n hx hb dX9_beat_103 rfl (lv_at hl 1 rfl) ?_
            refine kVI (As := [.int (q_2.2.1 1)]) (rest := []) C0 (kt_X7_answer l G (a0 0) a1 q_2.2.2 A1 (q_2.2.1 1)) gi_V_X9_149_X7_answer (n := 1) rfl (by decide +kernel) rfl ⟨rfl, rfl, Nat.le_of_ble_eq_true rfl, Nat.le_of_ble_eq_true rfl⟩ hPD hS 2 7 rfl rfl rfl [2, 3] [0, 1, 4, 5, 6, 7, 8, 9, 10, 11, 12, 13, 14, 15, 16, 17, 18, 19, 20, 21, 22] [0, 1, 21, 22, 2, 3, 4, 5, 6, 7, 8, 9, 10, 11, 12, 13, 14, 15, 16, 17, 18, 19, 20] (wr := pick (wX9 G h0 (va_up a0 10 (g2 0)) wk f0 A0 ++ (wX7 G (a0 0) a1 q_2.2.2 A1 ++ ([((a0 5), .inl (G.2.2.2, 8, .inr (.inr (.inr (.inr (fun k => some (va_up g2 0 (a0 10) k))))))), (g2 0, .inr (0, [.ref (aB2 0 0), .int (fB2 0 1)])), (aB2 0 0, .inl (G.2.2.1, 48, .inl (AB2 0 0))), (g2 1, .inr (0, [.ref (aB2 1 0), .int (fB2 1 1)])), (aB2 1 0, .inl (G.2.2.1, 48, .inl (AB2 1 0))), (g2 2, .inr (0, [.ref (aB2 2 0), .int (fB2 2 1)])), (aB2 2 0, .inl (G.2.2.1, 48, .inl (AB2 2 0))), (g2 3, .inr (0, [.ref (aB2 3 0), .int (fB2 3 1)])), (aB2 3 0, .inl (G.2.2.1, 48, .inl (AB2 3 0))), (g2 4, .inr (0, [.ref (aB2 4 0), .int (fB2 4 1)])), (aB2 4 0, .inl (G.2.2.1, 48, .inl (AB2 4 0))), (g2 5, .inr (0, [.ref (aB2 5 0), .int (fB2 5 1)])), (aB2 5 0, .inl (G.2.2.1, 48, .inl (AB2 5 0))), (g2 6, .inr (0, [.ref (aB2 6 0), .int (fB2 6 1)])), (aB2 6 0, .inl (G.2.2.1, 48, .inl (AB2 6 0))), (g2 7, .inr (0, [.ref (aB2 7 0), .int (fB2 7 1)])), (aB2 7 0, .inl (G.2.2.1, 48, .inl (AB2 7 0)))] ++ (wX0 G (a0 10) a3 q_2.2.1 q_2.1)))) [0, 1, 4, 5, 6, 7, 8, 9, 10, 11, 12, 13, 14, 15, 16, 17, 18, 19, 20, 21, 22]) (wN := (wX9 G h0 (va_up a0 10 (g2 0)) wk f0 A0 ++ (wX7 G (a0 0) a1 q_2.2.2 A1 ++ ([((a0 5), .inl (G.2.2.2, 8, .inr (.inr (.inr (.inr (fun k => some (va_up g2 0 (a0 10) k))))))), (g2 0, .inr (0, [.ref (aB2 0 0), .int (fB2 0 1)])), (aB2 0 0, .inl (G.2.2.1, 48, .inl (AB2 0 0))), (g2 1, .inr (0, [.ref (aB2 1 0), .int (fB2 1 1)])), (aB2 1 0, .inl (G.2.2.1, 48, .inl (AB2 1 0))), (g2 2, .inr (0, [.ref (aB2 2 0), .int (fB2 2 1)])), (aB2 2 0, .inl (G.2.2.1, 48, .inl (AB2 2 0))), (g2 3, .inr (0, [.ref (aB2 3 0), .int (fB2 3 1)])), (aB2 3 0, .inl (G.2.2.1, 48, .inl (AB2 3 0))), (g2 4, .inr (0, [.ref (aB2 4 0), .int (fB2 4 1)])), (aB2 4 0, .inl (G.2.2.1, 48, .inl (AB2 4 0))), (g2 5, .inr (0, [.ref (aB2 5 0), .int (fB2 5 1)])), (aB2 5 0, .inl (G.2.2.1, 48, .inl (AB2 5 0))), (g2 6, .inr (0, [.ref (aB2 6 0), .int (fB2 6 1)])), (aB2 6 0, .inl (G.2.2.1, 48, .inl (AB2 6 0))), (g2 7, .inr (0, [.ref (aB2 7 0), .int (fB2 7 1)])), (aB2 7 0, .inl (G.2.2.1, 48, .inl (AB2 7 0)))] ++ (wX0 G (a0 10) a3 q_2.2.1 q_2.1))))) rfl rfl rfl rfl rfl hl.1 (Nat.le_of_ble_eq_true rfl) dX9_beat_104 (fun H locs hPD hS => ?_)
            obtain rfl := Option.some.inj h
            exact eIE (some 0) C0 hPD [0, 1, 2, 3, 4, 21, 22, 7, 8, 9, 10, 11, 12, 13, 14, 15, 16, 17, 18, 19, 20, 5, 6] rfl rfl hS rfl dX9_beat_107
          · refine lv_astore (lv' := [(4, .ref (g2 1)), (3, .int (q_2.2.1 1)), (0, .ref h0), (1, .int p1), (2, .int p2)]) hx hb dX9_beat_81 hl (by decide) rfl (fun ls hl => ?_)
            refine lv_aload_n hx hb dX9_beat_83 rfl (lv_at hl 2 rfl) ?_
            refine va_get (D := G.1) (ci := 9) (v := .ref (a0 5)) (C := RX9) (T := TX9) (N := 15) hx hb hts inlX9 hown hK hPD.1 0 rfl rfl 5 (by decide) (hts _ gw_389) (fun _ h9 => h9) rfl dX9_beat_84 ?_
            refine lv_iload_n hx hb dX9_beat_87 rfl (lv_at hl 3 rfl) ?_
            refine lv_aload_n hx hb dX9_beat_88 rfl (lv_at hl 2 rfl) ?_
            refine va_get (D := G.1) (ci := 9) (v := .ref (a0 10)) (C := RX9) (T := TX9) (N := 15) hx hb hts inlX9 hown hK hPD.1 0 rfl rfl 10 (by decide) (hts _ gw_390) (fun _ h9 => h9) rfl dX9_beat_89 ?_
            refine va_astB hx hb hK hPD.1 hPD.2 hS 4 2 21 0 rfl rfl rfl rfl hi_3 eb_4 dX9_beat_92 (fun H locs hP hD hS => ?_)
            have hPD : WD G DA (wX9 G h0 a0 wk f0 A0 ++ (wX7 G (a0 0) a1 q_2.2.2 A1 ++ ([((a0 5), .inl (G.2.2.2, 8, .inr (.inr (.inr (.inr (fun k => some (va_up g2 1 (a0 10) k))))))), (g2 0, .inr (0, [.ref (aB2 0 0), .int (fB2 0 1)])), (aB2 0 0, .inl (G.2.2.1, 48, .inl (AB2 0 0))), (g2 1, .inr (0, [.ref (aB2 1 0), .int (fB2 1 1)])), (aB2 1 0, .inl (G.2.2.1, 48, .inl (AB2 1 0))), (g2 2, .inr (0, [.ref (aB2 2 0), .int (fB2 2 1)])), (aB2 2 0, .inl (G.2.2.1, 48, .inl (AB2 2 0))), (g2 3, .inr (0, [.ref (aB2 3 0), .int (fB2 3 1)])), (aB2 3 0, .inl (G.2.2.1, 48, .inl (AB2 3 0))), (g2 4, .inr (0, [.ref (aB2 4 0), .int (fB2 4 1)])), (aB2 4 0, .inl (G.2.2.1, 48, .inl (AB2 4 0))), (g2 5, .inr (0, [.ref (aB2 5 0), .int (fB2 5 1)])), (aB2 5 0, .inl (G.2.2.1, 48, .inl (AB2 5 0))), (g2 6, .inr (0, [.ref (aB2 6 0), .int (fB2 6 1)])), (aB2 6 0, .inl (G.2.2.1, 48, .inl (AB2 6 0))), (g2 7, .inr (0, [.ref (aB2 7 0), .int (fB2 7 1)])), (aB2 7 0, .inl (G.2.2.1, 48, .inl (AB2 7 0)))] ++ (wX0 G (a0 10) a3 q_2.2.1 q_2.1)))) H := ⟨hP, hD⟩
            clear hP hD
            refine lv_aload_n hx hb dX9_beat_93 rfl (lv_at hl 2 rfl) ?_
            refine lv_aload hx hb dX9_beat_94 (lv_at hl 0 rfl) ?_
            refine va_put (D := G.1) (ci := 9) (v := .ref (g2 1)) (ty := .object "IdleCrimes$Beat") (C := RX9) (T := TX9) (N := 15) hx hb hts inlX9 tyX9 tyX9_ok nmX9 hown hK hPD.1 hPD.2 hS 0 rfl rfl 10 (by decide) (hts _ gw_390) (fun _ h9 => h9) rfl (by decide +kernel) rfl rfl (Nat.le_of_ble_eq_true rfl) dX9_beat_96 (fun H locs hP hD hS => ?_)
            have hPD : WD G DA (wX9 G h0 (va_up a0 10 (g2 1)) wk f0 A0 ++ (wX7 G (a0 0) a1 q_2.2.2 A1 ++ ([((a0 5), .inl (G.2.2.2, 8, .inr (.inr (.inr (.inr (fun k => some (va_up g2 1 (a0 10) k))))))), (g2 0, .inr (0, [.ref (aB2 0 0), .int (fB2 0 1)])), (aB2 0 0, .inl (G.2.2.1, 48, .inl (AB2 0 0))), (g2 1, .inr (0, [.ref (aB2 1 0), .int (fB2 1 1)])), (aB2 1 0, .inl (G.2.2.1, 48, .inl (AB2 1 0))), (g2 2, .inr (0, [.ref (aB2 2 0), .int (fB2 2 1)])), (aB2 2 0, .inl (G.2.2.1, 48, .inl (AB2 2 0))), (g2 3, .inr (0, [.ref (aB2 3 0), .int (fB2 3 1)])), (aB2 3 0, .inl (G.2.2.1, 48, .inl (AB2 3 0))), (g2 4, .inr (0, [.ref (aB2 4 0), .int (fB2 4 1)])), (aB2 4 0, .inl (G.2.2.1, 48, .inl (AB2 4 0))), (g2 5, .inr (0, [.ref (aB2 5 0), .int (fB2 5 1)])), (aB2 5 0, .inl (G.2.2.1, 48, .inl (AB2 5 0))), (g2 6, .inr (0, [.ref (aB2 6 0), .int (fB2 6 1)])), (aB2 6 0, .inl (G.2.2.1, 48, .inl (AB2 6 0))), (g2 7, .inr (0, [.ref (aB2 7 0), .int (fB2 7 1)])), (aB2 7 0, .inl (G.2.2.1, 48, .inl (AB2 7 0)))] ++ (wX0 G (a0 10) a3 q_2.2.1 q_2.1)))) H := ⟨hP, hD⟩
            clear hP hD
            refine lv_aload_n hx hb dX9_beat_99 rfl (lv_at hl 2 rfl) ?_
            refine va_get (D := G.1) (ci := 9) (v := .ref (a0 0)) (C := RX9) (T := TX9) (N := 15) hx hb hts inlX9 hown hK hPD.1 0 rfl rfl 0 (by decide) (hts _ gw_363) (fun _ h9 => h9) rfl dX9_beat_100 ?_
            refine lv_iload_n hx hb dX9_beat_103 rfl (lv_at hl 1 rfl) ?_
            refine kVI (As := [.int (q_2.2.1 1)]) (rest := []) C0 (kt_X7_answer l G (a0 0) a1 q_2.2.2 A1 (q_2.2.1 1)) gi_V_X9_149_X7_answer (n := 1) rfl (by decide +kernel) rfl ⟨rfl, rfl, Nat.le_of_ble_eq_true rfl, Nat.le_of_ble_eq_true rfl⟩ hPD hS 2 7 rfl rfl rfl [2, 3] [0, 1, 4, 5, 6, 7, 8, 9, 10, 11, 12, 13, 14, 15, 16, 17, 18, 19, 20, 21, 22] [0, 1, 21, 22, 2, 3, 4, 5, 6, 7, 8, 9, 10, 11, 12, 13, 14, 15, 16, 17, 18, 19, 20] (wr := pick (wX9 G h0 (va_up a0 10 (g2 1)) wk f0 A0 ++ (wX7 G (a0 0) a1 q_2.2.2 A1 ++ ([((a0 5), .inl (G.2.2.2, 8, .inr (.inr (.inr (.inr (fun k => some (va_up g2 1 (a0 10) k))))))), (g2 0, .inr (0, [.ref (aB2 0 0), .int (fB2 0 1)])), (aB2 0 0, .inl (G.2.2.1, 48, .inl (AB2 0 0))), (g2 1, .inr (0, [.ref (aB2 1 0), .int (fB2 1 1)])), (aB2 1 0, .inl (G.2.2.1, 48, .inl (AB2 1 0))), (g2 2, .inr (0, [.ref (aB2 2 0), .int (fB2 2 1)])), (aB2 2 0, .inl (G.2.2.1, 48, .inl (AB2 2 0))), (g2 3, .inr (0, [.ref (aB2 3 0), .int (fB2 3 1)])), (aB2 3 0, .inl (G.2.2.1, 48, .inl (AB2 3 0))), (g2 4, .inr (0, [.ref (aB2 4 0), .int (fB2 4 1)])), (aB2 4 0, .inl (G.2.2.1, 48, .inl (AB2 4 0))), (g2 5, .inr (0, [.ref (aB2 5 0), .int (fB2 5 1)])), (aB2 5 0, .inl (G.2.2.1, 48, .inl (AB2 5 0))), (g2 6, .inr (0, [.ref (aB2 6 0), .int (fB2 6 1)])), (aB2 6 0, .inl (G.2.2.1, 48, .inl (AB2 6 0))), (g2 7, .inr (0, [.ref (aB2 7 0), .int (fB2 7 1)])), (aB2 7 0, .inl (G.2.2.1, 48, .inl (AB2 7 0)))] ++ (wX0 G (a0 10) a3 q_2.2.1 q_2.1)))) [0, 1, 4, 5, 6, 7, 8, 9, 10, 11, 12, 13, 14, 15, 16, 17, 18, 19, 20, 21, 22]) (wN := (wX9 G h0 (va_up a0 10 (g2 1)) wk f0 A0 ++ (wX7 G (a0 0) a1 q_2.2.2 A1 ++ ([((a0 5), .inl (G.2.2.2, 8, .inr (.inr (.inr (.inr (fun k => some (va_up g2 1 (a0 10) k))))))), (g2 0, .inr (0, [.ref (aB2 0 0), .int (fB2 0 1)])), (aB2 0 0, .inl (G.2.2.1, 48, .inl (AB2 0 0))), (g2 1, .inr (0, [.ref (aB2 1 0), .int (fB2 1 1)])), (aB2 1 0, .inl (G.2.2.1, 48, .inl (AB2 1 0))), (g2 2, .inr (0, [.ref (aB2 2 0), .int (fB2 2 1)])), (aB2 2 0, .inl (G.2.2.1, 48, .inl (AB2 2 0))), (g2 3, .inr (0, [.ref (aB2 3 0), .int (fB2 3 1)])), (aB2 3 0, .inl (G.2.2.1, 48, .inl (AB2 3 0))), (g2 4, .inr (0, [.ref (aB2 4 0), .int (fB2 4 1)])), (aB2 4 0, .inl (G.2.2.1, 48, .inl (AB2 4 0))), (g2 5, .inr (0, [.ref (aB2 5 0), .int (fB2 5 1)])), (aB2 5 0, .inl (G.2.2.1, 48, .inl (AB2 5 0))), (g2 6, .inr (0, [.ref (aB2 6 0), .int (fB2 6 1)])), (aB2 6 0, .inl (G.2.2.1, 48, .inl (AB2 6 0))), (g2 7, .inr (0, [.ref (aB2 7 0), .int (fB2 7 1)])), (aB2 7 0, .inl (G.2.2.1, 48, .inl (AB2 7 0)))] ++ (wX0 G (a0 10) a3 q_2.2.1 q_2.1))))) rfl rfl rfl rfl rfl hl.1 (Nat.le_of_ble_eq_true rfl) dX9_beat_104 (fun H locs hPD hS => ?_)
            obtain rfl := Option.some.inj h
            exact eIE (some 1) C0 hPD [0, 1, 2, 3, 4, 5, 6, 21, 22, 9, 10, 11, 12, 13, 14, 15, 16, 17, 18, 19, 20, 7, 8] rfl rfl hS rfl dX9_beat_107
          · refine lv_astore (lv' := [(4, .ref (g2 2)), (3, .int (q_2.2.1 1)), (0, .ref h0), (1, .int p1), (2, .int p2)]) hx hb dX9_beat_81 hl (by decide) rfl (fun ls hl => ?_)
            refine lv_aload_n hx hb dX9_beat_83 rfl (lv_at hl 2 rfl) ?_
            refine va_get (D := G.1) (ci := 9) (v := .ref (a0 5)) (C := RX9) (T := TX9) (N := 15) hx hb hts inlX9 hown hK hPD.1 0 rfl rfl 5 (by decide) (hts _ gw_389) (fun _ h9 => h9) rfl dX9_beat_84 ?_
            refine lv_iload_n hx hb dX9_beat_87 rfl (lv_at hl 3 rfl) ?_
            refine lv_aload_n hx hb dX9_beat_88 rfl (lv_at hl 2 rfl) ?_
            refine va_get (D := G.1) (ci := 9) (v := .ref (a0 10)) (C := RX9) (T := TX9) (N := 15) hx hb hts inlX9 hown hK hPD.1 0 rfl rfl 10 (by decide) (hts _ gw_390) (fun _ h9 => h9) rfl dX9_beat_89 ?_
            refine va_astB hx hb hK hPD.1 hPD.2 hS 4 2 21 0 rfl rfl rfl rfl hi_3 eb_4 dX9_beat_92 (fun H locs hP hD hS => ?_)
            have hPD : WD G DA (wX9 G h0 a0 wk f0 A0 ++ (wX7 G (a0 0) a1 q_2.2.2 A1 ++ ([((a0 5), .inl (G.2.2.2, 8, .inr (.inr (.inr (.inr (fun k => some (va_up g2 2 (a0 10) k))))))), (g2 0, .inr (0, [.ref (aB2 0 0), .int (fB2 0 1)])), (aB2 0 0, .inl (G.2.2.1, 48, .inl (AB2 0 0))), (g2 1, .inr (0, [.ref (aB2 1 0), .int (fB2 1 1)])), (aB2 1 0, .inl (G.2.2.1, 48, .inl (AB2 1 0))), (g2 2, .inr (0, [.ref (aB2 2 0), .int (fB2 2 1)])), (aB2 2 0, .inl (G.2.2.1, 48, .inl (AB2 2 0))), (g2 3, .inr (0, [.ref (aB2 3 0), .int (fB2 3 1)])), (aB2 3 0, .inl (G.2.2.1, 48, .inl (AB2 3 0))), (g2 4, .inr (0, [.ref (aB2 4 0), .int (fB2 4 1)])), (aB2 4 0, .inl (G.2.2.1, 48, .inl (AB2 4 0))), (g2 5, .inr (0, [.ref (aB2 5 0), .int (fB2 5 1)])), (aB2 5 0, .inl (G.2.2.1, 48, .inl (AB2 5 0))), (g2 6, .inr (0, [.ref (aB2 6 0), .int (fB2 6 1)])), (aB2 6 0, .inl (G.2.2.1, 48, .inl (AB2 6 0))), (g2 7, .inr (0, [.ref (aB2 7 0), .int (fB2 7 1)])), (aB2 7 0, .inl (G.2.2.1, 48, .inl (AB2 7 0)))] ++ (wX0 G (a0 10) a3 q_2.2.1 q_2.1)))) H := ⟨hP, hD⟩
            clear hP hD
            refine lv_aload_n hx hb dX9_beat_93 rfl (lv_at hl 2 rfl) ?_
            refine lv_aload hx hb dX9_beat_94 (lv_at hl 0 rfl) ?_
            refine va_put (D := G.1) (ci := 9) (v := .ref (g2 2)) (ty := .object "IdleCrimes$Beat") (C := RX9) (T := TX9) (N := 15) hx hb hts inlX9 tyX9 tyX9_ok nmX9 hown hK hPD.1 hPD.2 hS 0 rfl rfl 10 (by decide) (hts _ gw_390) (fun _ h9 => h9) rfl (by decide +kernel) rfl rfl (Nat.le_of_ble_eq_true rfl) dX9_beat_96 (fun H locs hP hD hS => ?_)
            have hPD : WD G DA (wX9 G h0 (va_up a0 10 (g2 2)) wk f0 A0 ++ (wX7 G (a0 0) a1 q_2.2.2 A1 ++ ([((a0 5), .inl (G.2.2.2, 8, .inr (.inr (.inr (.inr (fun k => some (va_up g2 2 (a0 10) k))))))), (g2 0, .inr (0, [.ref (aB2 0 0), .int (fB2 0 1)])), (aB2 0 0, .inl (G.2.2.1, 48, .inl (AB2 0 0))), (g2 1, .inr (0, [.ref (aB2 1 0), .int (fB2 1 1)])), (aB2 1 0, .inl (G.2.2.1, 48, .inl (AB2 1 0))), (g2 2, .inr (0, [.ref (aB2 2 0), .int (fB2 2 1)])), (aB2 2 0, .inl (G.2.2.1, 48, .inl (AB2 2 0))), (g2 3, .inr (0, [.ref (aB2 3 0), .int (fB2 3 1)])), (aB2 3 0, .inl (G.2.2.1, 48, .inl (AB2 3 0))), (g2 4, .inr (0, [.ref (aB2 4 0), .int (fB2 4 1)])), (aB2 4 0, .inl (G.2.2.1, 48, .inl (AB2 4 0))), (g2 5, .inr (0, [.ref (aB2 5 0), .int (fB2 5 1)])), (aB2 5 0, .inl (G.2.2.1, 48, .inl (AB2 5 0))), (g2 6, .inr (0, [.ref (aB2 6 0), .int (fB2 6 1)])), (aB2 6 0, .inl (G.2.2.1, 48, .inl (AB2 6 0))), (g2 7, .inr (0, [.ref (aB2 7 0), .int (fB2 7 1)])), (aB2 7 0, .inl (G.2.2.1, 48, .inl (AB2 7 0)))] ++ (wX0 G (a0 10) a3 q_2.2.1 q_2.1)))) H := ⟨hP, hD⟩
            clear hP hD
            refine lv_aload_n hx hb dX9_beat_99 rfl (lv_at hl 2 rfl) ?_
            refine va_get (D := G.1) (ci := 9) (v := .ref (a0 0)) (C := RX9) (T := TX9) (N := 15) hx hb hts inlX9 hown hK hPD.1 0 rfl rfl 0 (by decide) (hts _ gw_363) (fun _ h9 => h9) rfl dX9_beat_100 ?_
            refine lv_iload_n hx hb dX9_beat_103 rfl (lv_at hl 1 rfl) ?_
            refine kVI (As := [.int (q_2.2.1 1)]) (rest := []) C0 (kt_X7_answer l G (a0 0) a1 q_2.2.2 A1 (q_2.2.1 1)) gi_V_X9_149_X7_answer (n := 1) rfl (by decide +kernel) rfl ⟨rfl, rfl, Nat.le_of_ble_eq_true rfl, Nat.le_of_ble_eq_true rfl⟩ hPD hS 2 7 rfl rfl rfl [2, 3] [0, 1, 4, 5, 6, 7, 8, 9, 10, 11, 12, 13, 14, 15, 16, 17, 18, 19, 20, 21, 22] [0, 1, 21, 22, 2, 3, 4, 5, 6, 7, 8, 9, 10, 11, 12, 13, 14, 15, 16, 17, 18, 19, 20] (wr := pick (wX9 G h0 (va_up a0 10 (g2 2)) wk f0 A0 ++ (wX7 G (a0 0) a1 q_2.2.2 A1 ++ ([((a0 5), .inl (G.2.2.2, 8, .inr (.inr (.inr (.inr (fun k => some (va_up g2 2 (a0 10) k))))))), (g2 0, .inr (0, [.ref (aB2 0 0), .int (fB2 0 1)])), (aB2 0 0, .inl (G.2.2.1, 48, .inl (AB2 0 0))), (g2 1, .inr (0, [.ref (aB2 1 0), .int (fB2 1 1)])), (aB2 1 0, .inl (G.2.2.1, 48, .inl (AB2 1 0))), (g2 2, .inr (0, [.ref (aB2 2 0), .int (fB2 2 1)])), (aB2 2 0, .inl (G.2.2.1, 48, .inl (AB2 2 0))), (g2 3, .inr (0, [.ref (aB2 3 0), .int (fB2 3 1)])), (aB2 3 0, .inl (G.2.2.1, 48, .inl (AB2 3 0))), (g2 4, .inr (0, [.ref (aB2 4 0), .int (fB2 4 1)])), (aB2 4 0, .inl (G.2.2.1, 48, .inl (AB2 4 0))), (g2 5, .inr (0, [.ref (aB2 5 0), .int (fB2 5 1)])), (aB2 5 0, .inl (G.2.2.1, 48, .inl (AB2 5 0))), (g2 6, .inr (0, [.ref (aB2 6 0), .int (fB2 6 1)])), (aB2 6 0, .inl (G.2.2.1, 48, .inl (AB2 6 0))), (g2 7, .inr (0, [.ref (aB2 7 0), .int (fB2 7 1)])), (aB2 7 0, .inl (G.2.2.1, 48, .inl (AB2 7 0)))] ++ (wX0 G (a0 10) a3 q_2.2.1 q_2.1)))) [0, 1, 4, 5, 6, 7, 8, 9, 10, 11, 12, 13, 14, 15, 16, 17, 18, 19, 20, 21, 22]) (wN := (wX9 G h0 (va_up a0 10 (g2 2)) wk f0 A0 ++ (wX7 G (a0 0) a1 q_2.2.2 A1 ++ ([((a0 5), .inl (G.2.2.2, 8, .inr (.inr (.inr (.inr (fun k => some (va_up g2 2 (a0 10) k))))))), (g2 0, .inr (0, [.ref (aB2 0 0), .int (fB2 0 1)])), (aB2 0 0, .inl (G.2.2.1, 48, .inl (AB2 0 0))), (g2 1, .inr (0, [.ref (aB2 1 0), .int (fB2 1 1)])), (aB2 1 0, .inl (G.2.2.1, 48, .inl (AB2 1 0))), (g2 2, .inr (0, [.ref (aB2 2 0), .int (fB2 2 1)])), (aB2 2 0, .inl (G.2.2.1, 48, .inl (AB2 2 0))), (g2 3, .inr (0, [.ref (aB2 3 0), .int (fB2 3 1)])), (aB2 3 0, .inl (G.2.2.1, 48, .inl (AB2 3 0))), (g2 4, .inr (0, [.ref (aB2 4 0), .int (fB2 4 1)])), (aB2 4 0, .inl (G.2.2.1, 48, .inl (AB2 4 0))), (g2 5, .inr (0, [.ref (aB2 5 0), .int (fB2 5 1)])), (aB2 5 0, .inl (G.2.2.1, 48, .inl (AB2 5 0))), (g2 6, .inr (0, [.ref (aB2 6 0), .int (fB2 6 1)])), (aB2 6 0, .inl (G.2.2.1, 48, .inl (AB2 6 0))), (g2 7, .inr (0, [.ref (aB2 7 0), .int (fB2 7 1)])), (aB2 7 0, .inl (G.2.2.1, 48, .inl (AB2 7 0)))] ++ (wX0 G (a0 10) a3 q_2.2.1 q_2.1))))) rfl rfl rfl rfl rfl hl.1 (Nat.le_of_ble_eq_true rfl) dX9_beat_104 (fun H locs hPD hS => ?_)
            obtain rfl := Option.some.inj h
            exact eIE (some 2) C0 hPD [0, 1, 2, 3, 4, 5, 6, 7, 8, 21, 22, 11, 12, 13, 14, 15, 16, 17, 18, 19, 20, 9, 10] rfl rfl hS rfl dX9_beat_107
          · refine lv_astore (lv' := [(4, .ref (g2 3)), (3, .int (q_2.2.1 1)), (0, .ref h0), (1, .int p1), (2, .int p2)]) hx hb dX9_beat_81 hl (by decide) rfl (fun ls hl => ?_)
            refine lv_aload_n hx hb dX9_beat_83 rfl (lv_at hl 2 rfl) ?_
            refine va_get (D := G.1) (ci := 9) (v := .ref (a0 5)) (C := RX9) (T := TX9) (N := 15) hx hb hts inlX9 hown hK hPD.1 0 rfl rfl 5 (by decide) (hts _ gw_389) (fun _ h9 => h9) rfl dX9_beat_84 ?_
            refine lv_iload_n hx hb dX9_beat_87 rfl (lv_at hl 3 rfl) ?_
            refine lv_aload_n hx hb dX9_beat_88 rfl (lv_at hl 2 rfl) ?_
            refine va_get (D := G.1) (ci := 9) (v := .ref (a0 10)) (C := RX9) (T := TX9) (N := 15) hx hb hts inlX9 hown hK hPD.1 0 rfl rfl 10 (by decide) (hts _ gw_390) (fun _ h9 => h9) rfl dX9_beat_89 ?_
            refine va_astB hx hb hK hPD.1 hPD.2 hS 4 2 21 0 rfl rfl rfl rfl hi_3 eb_4 dX9_beat_92 (fun H locs hP hD hS => ?_)
            have hPD : WD G DA (wX9 G h0 a0 wk f0 A0 ++ (wX7 G (a0 0) a1 q_2.2.2 A1 ++ ([((a0 5), .inl (G.2.2.2, 8, .inr (.inr (.inr (.inr (fun k => some (va_up g2 3 (a0 10) k))))))), (g2 0, .inr (0, [.ref (aB2 0 0), .int (fB2 0 1)])), (aB2 0 0, .inl (G.2.2.1, 48, .inl (AB2 0 0))), (g2 1, .inr (0, [.ref (aB2 1 0), .int (fB2 1 1)])), (aB2 1 0, .inl (G.2.2.1, 48, .inl (AB2 1 0))), (g2 2, .inr (0, [.ref (aB2 2 0), .int (fB2 2 1)])), (aB2 2 0, .inl (G.2.2.1, 48, .inl (AB2 2 0))), (g2 3, .inr (0, [.ref (aB2 3 0), .int (fB2 3 1)])), (aB2 3 0, .inl (G.2.2.1, 48, .inl (AB2 3 0))), (g2 4, .inr (0, [.ref (aB2 4 0), .int (fB2 4 1)])), (aB2 4 0, .inl (G.2.2.1, 48, .inl (AB2 4 0))), (g2 5, .inr (0, [.ref (aB2 5 0), .int (fB2 5 1)])), (aB2 5 0, .inl (G.2.2.1, 48, .inl (AB2 5 0))), (g2 6, .inr (0, [.ref (aB2 6 0), .int (fB2 6 1)])), (aB2 6 0, .inl (G.2.2.1, 48, .inl (AB2 6 0))), (g2 7, .inr (0, [.ref (aB2 7 0), .int (fB2 7 1)])), (aB2 7 0, .inl (G.2.2.1, 48, .inl (AB2 7 0)))] ++ (wX0 G (a0 10) a3 q_2.2.1 q_2.1)))) H := ⟨hP, hD⟩
            clear hP hD
            refine lv_aload_n hx hb dX9_beat_93 rfl (lv_at hl 2 rfl) ?_
            refine lv_aload hx hb dX9_beat_94 (lv_at hl 0 rfl) ?_
            refine va_put (D := G.1) (ci := 9) (v := .ref (g2 3)) (ty := .object "IdleCrimes$Beat") (C := RX9) (T := TX9) (N := 15) hx hb hts inlX9 tyX9 tyX9_ok nmX9 hown hK hPD.1 hPD.2 hS 0 rfl rfl 10 (by decide) (hts _ gw_390) (fun _ h9 => h9) rfl (by decide +kernel) rfl rfl (Nat.le_of_ble_eq_true rfl) dX9_beat_96 (fun H locs hP hD hS => ?_)
            have hPD : WD G DA (wX9 G h0 (va_up a0 10 (g2 3)) wk f0 A0 ++ (wX7 G (a0 0) a1 q_2.2.2 A1 ++ ([((a0 5), .inl (G.2.2.2, 8, .inr (.inr (.inr (.inr (fun k => some (va_up g2 3 (a0 10) k))))))), (g2 0, .inr (0, [.ref (aB2 0 0), .int (fB2 0 1)])), (aB2 0 0, .inl (G.2.2.1, 48, .inl (AB2 0 0))), (g2 1, .inr (0, [.ref (aB2 1 0), .int (fB2 1 1)])), (aB2 1 0, .inl (G.2.2.1, 48, .inl (AB2 1 0))), (g2 2, .inr (0, [.ref (aB2 2 0), .int (fB2 2 1)])), (aB2 2 0, .inl (G.2.2.1, 48, .inl (AB2 2 0))), (g2 3, .inr (0, [.ref (aB2 3 0), .int (fB2 3 1)])), (aB2 3 0, .inl (G.2.2.1, 48, .inl (AB2 3 0))), (g2 4, .inr (0, [.ref (aB2 4 0), .int (fB2 4 1)])), (aB2 4 0, .inl (G.2.2.1, 48, .inl (AB2 4 0))), (g2 5, .inr (0, [.ref (aB2 5 0), .int (fB2 5 1)])), (aB2 5 0, .inl (G.2.2.1, 48, .inl (AB2 5 0))), (g2 6, .inr (0, [.ref (aB2 6 0), .int (fB2 6 1)])), (aB2 6 0, .inl (G.2.2.1, 48, .inl (AB2 6 0))), (g2 7, .inr (0, [.ref (aB2 7 0), .int (fB2 7 1)])), (aB2 7 0, .inl (G.2.2.1, 48, .inl (AB2 7 0)))] ++ (wX0 G (a0 10) a3 q_2.2.1 q_2.1)))) H := ⟨hP, hD⟩
            clear hP hD
            refine lv_aload_n hx hb dX9_beat_99 rfl (lv_at hl 2 rfl) ?_
            refine va_get (D := G.1) (ci := 9) (v := .ref (a0 0)) (C := RX9) (T := TX9) (N := 15) hx hb hts inlX9 hown hK hPD.1 0 rfl rfl 0 (by decide) (hts _ gw_363) (fun _ h9 => h9) rfl dX9_beat_100 ?_
            refine lv_iload_n hx hb dX9_beat_103 rfl (lv_at hl 1 rfl) ?_
            refine kVI (As := [.int (q_2.2.1 1)]) (rest := []) C0 (kt_X7_answer l G (a0 0) a1 q_2.2.2 A1 (q_2.2.1 1)) gi_V_X9_149_X7_answer (n := 1) rfl (by decide +kernel) rfl ⟨rfl, rfl, Nat.le_of_ble_eq_true rfl, Nat.le_of_ble_eq_true rfl⟩ hPD hS 2 7 rfl rfl rfl [2, 3] [0, 1, 4, 5, 6, 7, 8, 9, 10, 11, 12, 13, 14, 15, 16, 17, 18, 19, 20, 21, 22] [0, 1, 21, 22, 2, 3, 4, 5, 6, 7, 8, 9, 10, 11, 12, 13, 14, 15, 16, 17, 18, 19, 20] (wr := pick (wX9 G h0 (va_up a0 10 (g2 3)) wk f0 A0 ++ (wX7 G (a0 0) a1 q_2.2.2 A1 ++ ([((a0 5), .inl (G.2.2.2, 8, .inr (.inr (.inr (.inr (fun k => some (va_up g2 3 (a0 10) k))))))), (g2 0, .inr (0, [.ref (aB2 0 0), .int (fB2 0 1)])), (aB2 0 0, .inl (G.2.2.1, 48, .inl (AB2 0 0))), (g2 1, .inr (0, [.ref (aB2 1 0), .int (fB2 1 1)])), (aB2 1 0, .inl (G.2.2.1, 48, .inl (AB2 1 0))), (g2 2, .inr (0, [.ref (aB2 2 0), .int (fB2 2 1)])), (aB2 2 0, .inl (G.2.2.1, 48, .inl (AB2 2 0))), (g2 3, .inr (0, [.ref (aB2 3 0), .int (fB2 3 1)])), (aB2 3 0, .inl (G.2.2.1, 48, .inl (AB2 3 0))), (g2 4, .inr (0, [.ref (aB2 4 0), .int (fB2 4 1)])), (aB2 4 0, .inl (G.2.2.1, 48, .inl (AB2 4 0))), (g2 5, .inr (0, [.ref (aB2 5 0), .int (fB2 5 1)])), (aB2 5 0, .inl (G.2.2.1, 48, .inl (AB2 5 0))), (g2 6, .inr (0, [.ref (aB2 6 0), .int (fB2 6 1)])), (aB2 6 0, .inl (G.2.2.1, 48, .inl (AB2 6 0))), (g2 7, .inr (0, [.ref (aB2 7 0), .int (fB2 7 1)])), (aB2 7 0, .inl (G.2.2.1, 48, .inl (AB2 7 0)))] ++ (wX0 G (a0 10) a3 q_2.2.1 q_2.1)))) [0, 1, 4, 5, 6, 7, 8, 9, 10, 11, 12, 13, 14, 15, 16, 17, 18, 19, 20, 21, 22]) (wN := (wX9 G h0 (va_up a0 10 (g2 3)) wk f0 A0 ++ (wX7 G (a0 0) a1 q_2.2.2 A1 ++ ([((a0 5), .inl (G.2.2.2, 8, .inr (.inr (.inr (.inr (fun k => some (va_up g2 3 (a0 10) k))))))), (g2 0, .inr (0, [.ref (aB2 0 0), .int (fB2 0 1)])), (aB2 0 0, .inl (G.2.2.1, 48, .inl (AB2 0 0))), (g2 1, .inr (0, [.ref (aB2 1 0), .int (fB2 1 1)])), (aB2 1 0, .inl (G.2.2.1, 48, .inl (AB2 1 0))), (g2 2, .inr (0, [.ref (aB2 2 0), .int (fB2 2 1)])), (aB2 2 0, .inl (G.2.2.1, 48, .inl (AB2 2 0))), (g2 3, .inr (0, [.ref (aB2 3 0), .int (fB2 3 1)])), (aB2 3 0, .inl (G.2.2.1, 48, .inl (AB2 3 0))), (g2 4, .inr (0, [.ref (aB2 4 0), .int (fB2 4 1)])), (aB2 4 0, .inl (G.2.2.1, 48, .inl (AB2 4 0))), (g2 5, .inr (0, [.ref (aB2 5 0), .int (fB2 5 1)])), (aB2 5 0, .inl (G.2.2.1, 48, .inl (AB2 5 0))), (g2 6, .inr (0, [.ref (aB2 6 0), .int (fB2 6 1)])), (aB2 6 0, .inl (G.2.2.1, 48, .inl (AB2 6 0))), (g2 7, .inr (0, [.ref (aB2 7 0), .int (fB2 7 1)])), (aB2 7 0, .inl (G.2.2.1, 48, .inl (AB2 7 0)))] ++ (wX0 G (a0 10) a3 q_2.2.1 q_2.1))))) rfl rfl rfl rfl rfl hl.1 (Nat.le_of_ble_eq_true rfl) dX9_beat_104 (fun H locs hPD hS => ?_)
            obtain rfl := Option.some.inj h
            exact eIE (some 3) C0 hPD [0, 1, 2, 3, 4, 5, 6, 7, 8, 9, 10, 21, 22, 13, 14, 15, 16, 17, 18, 19, 20, 11, 12] rfl rfl hS rfl dX9_beat_107
          · refine lv_astore (lv' := [(4, .ref (g2 4)), (3, .int (q_2.2.1 1)), (0, .ref h0), (1, .int p1), (2, .int p2)]) hx hb dX9_beat_81 hl (by decide) rfl (fun ls hl => ?_)
            refine lv_aload_n hx hb dX9_beat_83 rfl (lv_at hl 2 rfl) ?_
            refine va_get (D := G.1) (ci := 9) (v := .ref (a0 5)) (C := RX9) (T := TX9) (N := 15) hx hb hts inlX9 hown hK hPD.1 0 rfl rfl 5 (by decide) (hts _ gw_389) (fun _ h9 => h9) rfl dX9_beat_84 ?_
            refine lv_iload_n hx hb dX9_beat_87 rfl (lv_at hl 3 rfl) ?_
            refine lv_aload_n hx hb dX9_beat_88 rfl (lv_at hl 2 rfl) ?_
            refine va_get (D := G.1) (ci := 9) (v := .ref (a0 10)) (C := RX9) (T := TX9) (N := 15) hx hb hts inlX9 hown hK hPD.1 0 rfl rfl 10 (by decide) (hts _ gw_390) (fun _ h9 => h9) rfl dX9_beat_89 ?_
            refine va_astB hx hb hK hPD.1 hPD.2 hS 4 2 21 0 rfl rfl rfl rfl hi_3 eb_4 dX9_beat_92 (fun H locs hP hD hS => ?_)
            have hPD : WD G DA (wX9 G h0 a0 wk f0 A0 ++ (wX7 G (a0 0) a1 q_2.2.2 A1 ++ ([((a0 5), .inl (G.2.2.2, 8, .inr (.inr (.inr (.inr (fun k => some (va_up g2 4 (a0 10) k))))))), (g2 0, .inr (0, [.ref (aB2 0 0), .int (fB2 0 1)])), (aB2 0 0, .inl (G.2.2.1, 48, .inl (AB2 0 0))), (g2 1, .inr (0, [.ref (aB2 1 0), .int (fB2 1 1)])), (aB2 1 0, .inl (G.2.2.1, 48, .inl (AB2 1 0))), (g2 2, .inr (0, [.ref (aB2 2 0), .int (fB2 2 1)])), (aB2 2 0, .inl (G.2.2.1, 48, .inl (AB2 2 0))), (g2 3, .inr (0, [.ref (aB2 3 0), .int (fB2 3 1)])), (aB2 3 0, .inl (G.2.2.1, 48, .inl (AB2 3 0))), (g2 4, .inr (0, [.ref (aB2 4 0), .int (fB2 4 1)])), (aB2 4 0, .inl (G.2.2.1, 48, .inl (AB2 4 0))), (g2 5, .inr (0, [.ref (aB2 5 0), .int (fB2 5 1)])), (aB2 5 0, .inl (G.2.2.1, 48, .inl (AB2 5 0))), (g2 6, .inr (0, [.ref (aB2 6 0), .int (fB2 6 1)])), (aB2 6 0, .inl (G.2.2.1, 48, .inl (AB2 6 0))), (g2 7, .inr (0, [.ref (aB2 7 0), .int (fB2 7 1)])), (aB2 7 0, .inl (G.2.2.1, 48, .inl (AB2 7 0)))] ++ (wX0 G (a0 10) a3 q_2.2.1 q_2.1)))) H := ⟨hP, hD⟩
            clear hP hD
            refine lv_aload_n hx hb dX9_beat_93 rfl (lv_at hl 2 rfl) ?_
            refine lv_aload hx hb dX9_beat_94 (lv_at hl 0 rfl) ?_
            refine va_put (D := G.1) (ci := 9) (v := .ref (g2 4)) (ty := .object "IdleCrimes$Beat") (C := RX9) (T := TX9) (N := 15) hx hb hts inlX9 tyX9 tyX9_ok nmX9 hown hK hPD.1 hPD.2 hS 0 rfl rfl 10 (by decide) (hts _ gw_390) (fun _ h9 => h9) rfl (by decide +kernel) rfl rfl (Nat.le_of_ble_eq_true rfl) dX9_beat_96 (fun H locs hP hD hS => ?_)
            have hPD : WD G DA (wX9 G h0 (va_up a0 10 (g2 4)) wk f0 A0 ++ (wX7 G (a0 0) a1 q_2.2.2 A1 ++ ([((a0 5), .inl (G.2.2.2, 8, .inr (.inr (.inr (.inr (fun k => some (va_up g2 4 (a0 10) k))))))), (g2 0, .inr (0, [.ref (aB2 0 0), .int (fB2 0 1)])), (aB2 0 0, .inl (G.2.2.1, 48, .inl (AB2 0 0))), (g2 1, .inr (0, [.ref (aB2 1 0), .int (fB2 1 1)])), (aB2 1 0, .inl (G.2.2.1, 48, .inl (AB2 1 0))), (g2 2, .inr (0, [.ref (aB2 2 0), .int (fB2 2 1)])), (aB2 2 0, .inl (G.2.2.1, 48, .inl (AB2 2 0))), (g2 3, .inr (0, [.ref (aB2 3 0), .int (fB2 3 1)])), (aB2 3 0, .inl (G.2.2.1, 48, .inl (AB2 3 0))), (g2 4, .inr (0, [.ref (aB2 4 0), .int (fB2 4 1)])), (aB2 4 0, .inl (G.2.2.1, 48, .inl (AB2 4 0))), (g2 5, .inr (0, [.ref (aB2 5 0), .int (fB2 5 1)])), (aB2 5 0, .inl (G.2.2.1, 48, .inl (AB2 5 0))), (g2 6, .inr (0, [.ref (aB2 6 0), .int (fB2 6 1)])), (aB2 6 0, .inl (G.2.2.1, 48, .inl (AB2 6 0))), (g2 7, .inr (0, [.ref (aB2 7 0), .int (fB2 7 1)])), (aB2 7 0, .inl (G.2.2.1, 48, .inl (AB2 7 0)))] ++ (wX0 G (a0 10) a3 q_2.2.1 q_2.1)))) H := ⟨hP, hD⟩
            clear hP hD
            refine lv_aload_n hx hb dX9_beat_99 rfl (lv_at hl 2 rfl) ?_
            refine va_get (D := G.1) (ci := 9) (v := .ref (a0 0)) (C := RX9) (T := TX9) (N := 15) hx hb hts inlX9 hown hK hPD.1 0 rfl rfl 0 (by decide) (hts _ gw_363) (fun _ h9 => h9) rfl dX9_beat_100 ?_
            refine lv_iload_n hx hb dX9_beat_103 rfl (lv_at hl 1 rfl) ?_
            refine kVI (As := [.int (q_2.2.1 1)]) (rest := []) C0 (kt_X7_answer l G (a0 0) a1 q_2.2.2 A1 (q_2.2.1 1)) gi_V_X9_149_X7_answer (n := 1) rfl (by decide +kernel) rfl ⟨rfl, rfl, Nat.le_of_ble_eq_true rfl, Nat.le_of_ble_eq_true rfl⟩ hPD hS 2 7 rfl rfl rfl [2, 3] [0, 1, 4, 5, 6, 7, 8, 9, 10, 11, 12, 13, 14, 15, 16, 17, 18, 19, 20, 21, 22] [0, 1, 21, 22, 2, 3, 4, 5, 6, 7, 8, 9, 10, 11, 12, 13, 14, 15, 16, 17, 18, 19, 20] (wr := pick (wX9 G h0 (va_up a0 10 (g2 4)) wk f0 A0 ++ (wX7 G (a0 0) a1 q_2.2.2 A1 ++ ([((a0 5), .inl (G.2.2.2, 8, .inr (.inr (.inr (.inr (fun k => some (va_up g2 4 (a0 10) k))))))), (g2 0, .inr (0, [.ref (aB2 0 0), .int (fB2 0 1)])), (aB2 0 0, .inl (G.2.2.1, 48, .inl (AB2 0 0))), (g2 1, .inr (0, [.ref (aB2 1 0), .int (fB2 1 1)])), (aB2 1 0, .inl (G.2.2.1, 48, .inl (AB2 1 0))), (g2 2, .inr (0, [.ref (aB2 2 0), .int (fB2 2 1)])), (aB2 2 0, .inl (G.2.2.1, 48, .inl (AB2 2 0))), (g2 3, .inr (0, [.ref (aB2 3 0), .int (fB2 3 1)])), (aB2 3 0, .inl (G.2.2.1, 48, .inl (AB2 3 0))), (g2 4, .inr (0, [.ref (aB2 4 0), .int (fB2 4 1)])), (aB2 4 0, .inl (G.2.2.1, 48, .inl (AB2 4 0))), (g2 5, .inr (0, [.ref (aB2 5 0), .int (fB2 5 1)])), (aB2 5 0, .inl (G.2.2.1, 48, .inl (AB2 5 0))), (g2 6, .inr (0, [.ref (aB2 6 0), .int (fB2 6 1)])), (aB2 6 0, .inl (G.2.2.1, 48, .inl (AB2 6 0))), (g2 7, .inr (0, [.ref (aB2 7 0), .int (fB2 7 1)])), (aB2 7 0, .inl (G.2.2.1, 48, .inl (AB2 7 0)))] ++ (wX0 G (a0 10) a3 q_2.2.1 q_2.1)))) [0, 1, 4, 5, 6, 7, 8, 9, 10, 11, 12, 13, 14, 15, 16, 17, 18, 19, 20, 21, 22]) (wN := (wX9 G h0 (va_up a0 10 (g2 4)) wk f0 A0 ++ (wX7 G (a0 0) a1 q_2.2.2 A1 ++ ([((a0 5), .inl (G.2.2.2, 8, .inr (.inr (.inr (.inr (fun k => some (va_up g2 4 (a0 10) k))))))), (g2 0, .inr (0, [.ref (aB2 0 0), .int (fB2 0 1)])), (aB2 0 0, .inl (G.2.2.1, 48, .inl (AB2 0 0))), (g2 1, .inr (0, [.ref (aB2 1 0), .int (fB2 1 1)])), (aB2 1 0, .inl (G.2.2.1, 48, .inl (AB2 1 0))), (g2 2, .inr (0, [.ref (aB2 2 0), .int (fB2 2 1)])), (aB2 2 0, .inl (G.2.2.1, 48, .inl (AB2 2 0))), (g2 3, .inr (0, [.ref (aB2 3 0), .int (fB2 3 1)])), (aB2 3 0, .inl (G.2.2.1, 48, .inl (AB2 3 0))), (g2 4, .inr (0, [.ref (aB2 4 0), .int (fB2 4 1)])), (aB2 4 0, .inl (G.2.2.1, 48, .inl (AB2 4 0))), (g2 5, .inr (0, [.ref (aB2 5 0), .int (fB2 5 1)])), (aB2 5 0, .inl (G.2.2.1, 48, .inl (AB2 5 0))), (g2 6, .inr (0, [.ref (aB2 6 0), .int (fB2 6 1)])), (aB2 6 0, .inl (G.2.2.1, 48, .inl (AB2 6 0))), (g2 7, .inr (0, [.ref (aB2 7 0), .int (fB2 7 1)])), (aB2 7 0, .inl (G.2.2.1, 48, .inl (AB2 7 0)))] ++ (wX0 G (a0 10) a3 q_2.2.1 q_2.1))))) rfl rfl rfl rfl rfl hl.1 (Nat.le_of_ble_eq_true rfl) dX9_beat_104 (fun H locs hPD hS => ?_)
            obtain rfl := Option.some.inj h
            exact eIE (some 4) C0 hPD [0, 1, 2, 3, 4, 5, 6, 7, 8, 9, 10, 11, 12, 21, 22, 15, 16, 17, 18, 19, 20, 13, 14] rfl rfl hS rfl dX9_beat_107
          · refine lv_astore (lv' := [(4, .ref (g2 5)), (3, .int (q_2.2.1 1)), (0, .ref h0), (1, .int p1), (2, .int p2)]) hx hb dX9_beat_81 hl (by decide) rfl (fun ls hl => ?_)
            refine lv_aload_n hx hb dX9_beat_83 rfl (lv_at hl 2 rfl) ?_
            refine va_get (D := G.1) (ci := 9) (v := .ref (a0 5)) (C := RX9) (T := TX9) (N := 15) hx hb hts inlX9 hown hK hPD.1 0 rfl rfl 5 (by decide) (hts _ gw_389) (fun _ h9 => h9) rfl dX9_beat_84 ?_
            refine lv_iload_n hx hb dX9_beat_87 rfl (lv_at hl 3 rfl) ?_
            refine lv_aload_n hx hb dX9_beat_88 rfl (lv_at hl 2 rfl) ?_
            refine va_get (D := G.1) (ci := 9) (v := .ref (a0 10)) (C := RX9) (T := TX9) (N := 15) hx hb hts inlX9 hown hK hPD.1 0 rfl rfl 10 (by decide) (hts _ gw_390) (fun _ h9 => h9) rfl dX9_beat_89 ?_
            refine va_astB hx hb hK hPD.1 hPD.2 hS 4 2 21 0 rfl rfl rfl rfl hi_3 eb_4 dX9_beat_92 (fun H locs hP hD hS => ?_)
            have hPD : WD G DA (wX9 G h0 a0 wk f0 A0 ++ (wX7 G (a0 0) a1 q_2.2.2 A1 ++ ([((a0 5), .inl (G.2.2.2, 8, .inr (.inr (.inr (.inr (fun k => some (va_up g2 5 (a0 10) k))))))), (g2 0, .inr (0, [.ref (aB2 0 0), .int (fB2 0 1)])), (aB2 0 0, .inl (G.2.2.1, 48, .inl (AB2 0 0))), (g2 1, .inr (0, [.ref (aB2 1 0), .int (fB2 1 1)])), (aB2 1 0, .inl (G.2.2.1, 48, .inl (AB2 1 0))), (g2 2, .inr (0, [.ref (aB2 2 0), .int (fB2 2 1)])), (aB2 2 0, .inl (G.2.2.1, 48, .inl (AB2 2 0))), (g2 3, .inr (0, [.ref (aB2 3 0), .int (fB2 3 1)])), (aB2 3 0, .inl (G.2.2.1, 48, .inl (AB2 3 0))), (g2 4, .inr (0, [.ref (aB2 4 0), .int (fB2 4 1)])), (aB2 4 0, .inl (G.2.2.1, 48, .inl (AB2 4 0))), (g2 5, .inr (0, [.ref (aB2 5 0), .int (fB2 5 1)])), (aB2 5 0, .inl (G.2.2.1, 48, .inl (AB2 5 0))), (g2 6, .inr (0, [.ref (aB2 6 0), .int (fB2 6 1)])), (aB2 6 0, .inl (G.2.2.1, 48, .inl (AB2 6 0))), (g2 7, .inr (0, [.ref (aB2 7 0), .int (fB2 7 1)])), (aB2 7 0, .inl (G.2.2.1, 48, .inl (AB2 7 0)))] ++ (wX0 G (a0 10) a3 q_2.2.1 q_2.1)))) H := ⟨hP, hD⟩
            clear hP hD
            refine lv_aload_n hx hb dX9_beat_93 rfl (lv_at hl 2 rfl) ?_
            refine lv_aload hx hb dX9_beat_94 (lv_at hl 0 rfl) ?_
            refine va_put (D := G.1) (ci := 9) (v := .ref (g2 5)) (ty := .object "IdleCrimes$Beat") (C := RX9) (T := TX9) (N := 15) hx hb hts inlX9 tyX9 tyX9_ok nmX9 hown hK hPD.1 hPD.2 hS 0 rfl rfl 10 (by decide) (hts _ gw_390) (fun _ h9 => h9) rfl (by decide +kernel) rfl rfl (Nat.le_of_ble_eq_true rfl) dX9_beat_96 (fun H locs hP hD hS => ?_)
            have hPD : WD G DA (wX9 G h0 (va_up a0 10 (g2 5)) wk f0 A0 ++ (wX7 G (a0 0) a1 q_2.2.2 A1 ++ ([((a0 5), .inl (G.2.2.2, 8, .inr (.inr (.inr (.inr (fun k => some (va_up g2 5 (a0 10) k))))))), (g2 0, .inr (0, [.ref (aB2 0 0), .int (fB2 0 1)])), (aB2 0 0, .inl (G.2.2.1, 48, .inl (AB2 0 0))), (g2 1, .inr (0, [.ref (aB2 1 0), .int (fB2 1 1)])), (aB2 1 0, .inl (G.2.2.1, 48, .inl (AB2 1 0))), (g2 2, .inr (0, [.ref (aB2 2 0), .int (fB2 2 1)])), (aB2 2 0, .inl (G.2.2.1, 48, .inl (AB2 2 0))), (g2 3, .inr (0, [.ref (aB2 3 0), .int (fB2 3 1)])), (aB2 3 0, .inl (G.2.2.1, 48, .inl (AB2 3 0))), (g2 4, .inr (0, [.ref (aB2 4 0), .int (fB2 4 1)])), (aB2 4 0, .inl (G.2.2.1, 48, .inl (AB2 4 0))), (g2 5, .inr (0, [.ref (aB2 5 0), .int (fB2 5 1)])), (aB2 5 0, .inl (G.2.2.1, 48, .inl (AB2 5 0))), (g2 6, .inr (0, [.ref (aB2 6 0), .int (fB2 6 1)])), (aB2 6 0, .inl (G.2.2.1, 48, .inl (AB2 6 0))), (g2 7, .inr (0, [.ref (aB2 7 0), .int (fB2 7 1)])), (aB2 7 0, .inl (G.2.2.1, 48, .inl (AB2 7 0)))] ++ (wX0 G (a0 10) a3 q_2.2.1 q_2.1)))) H := ⟨hP, hD⟩
            clear hP hD
            refine lv_aload_n hx hb dX9_beat_99 rfl (lv_at hl 2 rfl) ?_
            refine va_get (D := G.1) (ci := 9) (v := .ref (a0 0)) (C := RX9) (T := TX9) (N := 15) hx hb hts inlX9 hown hK hPD.1 0 rfl rfl 0 (by decide) (hts _ gw_363) (fun _ h9 => h9) rfl dX9_beat_100 ?_
            refine lv_iload_n hx hb dX9_beat_103 rfl (lv_at hl 1 rfl) ?_
            refine kVI (As := [.int (q_2.2.1 1)]) (rest := []) C0 (kt_X7_answer l G (a0 0) a1 q_2.2.2 A1 (q_2.2.1 1)) gi_V_X9_149_X7_answer (n := 1) rfl (by decide +kernel) rfl ⟨rfl, rfl, Nat.le_of_ble_eq_true rfl, Nat.le_of_ble_eq_true rfl⟩ hPD hS 2 7 rfl rfl rfl [2, 3] [0, 1, 4, 5, 6, 7, 8, 9, 10, 11, 12, 13, 14, 15, 16, 17, 18, 19, 20, 21, 22] [0, 1, 21, 22, 2, 3, 4, 5, 6, 7, 8, 9, 10, 11, 12, 13, 14, 15, 16, 17, 18, 19, 20] (wr := pick (wX9 G h0 (va_up a0 10 (g2 5)) wk f0 A0 ++ (wX7 G (a0 0) a1 q_2.2.2 A1 ++ ([((a0 5), .inl (G.2.2.2, 8, .inr (.inr (.inr (.inr (fun k => some (va_up g2 5 (a0 10) k))))))), (g2 0, .inr (0, [.ref (aB2 0 0), .int (fB2 0 1)])), (aB2 0 0, .inl (G.2.2.1, 48, .inl (AB2 0 0))), (g2 1, .inr (0, [.ref (aB2 1 0), .int (fB2 1 1)])), (aB2 1 0, .inl (G.2.2.1, 48, .inl (AB2 1 0))), (g2 2, .inr (0, [.ref (aB2 2 0), .int (fB2 2 1)])), (aB2 2 0, .inl (G.2.2.1, 48, .inl (AB2 2 0))), (g2 3, .inr (0, [.ref (aB2 3 0), .int (fB2 3 1)])), (aB2 3 0, .inl (G.2.2.1, 48, .inl (AB2 3 0))), (g2 4, .inr (0, [.ref (aB2 4 0), .int (fB2 4 1)])), (aB2 4 0, .inl (G.2.2.1, 48, .inl (AB2 4 0))), (g2 5, .inr (0, [.ref (aB2 5 0), .int (fB2 5 1)])), (aB2 5 0, .inl (G.2.2.1, 48, .inl (AB2 5 0))), (g2 6, .inr (0, [.ref (aB2 6 0), .int (fB2 6 1)])), (aB2 6 0, .inl (G.2.2.1, 48, .inl (AB2 6 0))), (g2 7, .inr (0, [.ref (aB2 7 0), .int (fB2 7 1)])), (aB2 7 0, .inl (G.2.2.1, 48, .inl (AB2 7 0)))] ++ (wX0 G (a0 10) a3 q_2.2.1 q_2.1)))) [0, 1, 4, 5, 6, 7, 8, 9, 10, 11, 12, 13, 14, 15, 16, 17, 18, 19, 20, 21, 22]) (wN := (wX9 G h0 (va_up a0 10 (g2 5)) wk f0 A0 ++ (wX7 G (a0 0) a1 q_2.2.2 A1 ++ ([((a0 5), .inl (G.2.2.2, 8, .inr (.inr (.inr (.inr (fun k => some (va_up g2 5 (a0 10) k))))))), (g2 0, .inr (0, [.ref (aB2 0 0), .int (fB2 0 1)])), (aB2 0 0, .inl (G.2.2.1, 48, .inl (AB2 0 0))), (g2 1, .inr (0, [.ref (aB2 1 0), .int (fB2 1 1)])), (aB2 1 0, .inl (G.2.2.1, 48, .inl (AB2 1 0))), (g2 2, .inr (0, [.ref (aB2 2 0), .int (fB2 2 1)])), (aB2 2 0, .inl (G.2.2.1, 48, .inl (AB2 2 0))), (g2 3, .inr (0, [.ref (aB2 3 0), .int (fB2 3 1)])), (aB2 3 0, .inl (G.2.2.1, 48, .inl (AB2 3 0))), (g2 4, .inr (0, [.ref (aB2 4 0), .int (fB2 4 1)])), (aB2 4 0, .inl (G.2.2.1, 48, .inl (AB2 4 0))), (g2 5, .inr (0, [.ref (aB2 5 0), .int (fB2 5 1)])), (aB2 5 0, .inl (G.2.2.1, 48, .inl (AB2 5 0))), (g2 6, .inr (0, [.ref (aB2 6 0), .int (fB2 6 1)])), (aB2 6 0, .inl (G.2.2.1, 48, .inl (AB2 6 0))), (g2 7, .inr (0, [.ref (aB2 7 0), .int (fB2 7 1)])), (aB2 7 0, .inl (G.2.2.1, 48, .inl (AB2 7 0)))] ++ (wX0 G (a0 10) a3 q_2.2.1 q_2.1))))) rfl rfl rfl rfl rfl hl.1 (Nat.le_of_ble_eq_true rfl) dX9_beat_104 (fun H locs hPD hS => ?_)
            obtain rfl := Option.some.inj h
            exact eIE (some 5) C0 hPD [0, 1, 2, 3, 4, 5, 6, 7, 8, 9, 10, 11, 12, 13, 14, 21, 22, 17, 18, 19, 20, 15, 16] rfl rfl hS rfl dX9_beat_107
          · refine lv_astore (lv' := [(4, .ref (g2 6)), (3, .int (q_2.2.1 1)), (0, .ref h0), (1, .int p1), (2, .int p2)]) hx hb dX9_beat_81 hl (by decide) rfl (fun ls hl => ?_)
            refine lv_aload_n hx hb dX9_beat_83 rfl (lv_at hl 2 rfl) ?_
            refine va_get (D := G.1) (ci := 9) (v := .ref (a0 5)) (C := RX9) (T := TX9) (N := 15) hx hb hts inlX9 hown hK hPD.1 0 rfl rfl 5 (by decide) (hts _ gw_389) (fun _ h9 => h9) rfl dX9_beat_84 ?_
            refine lv_iload_n hx hb dX9_beat_87 rfl (lv_at hl 3 rfl) ?_
            refine lv_aload_n hx hb dX9_beat_88 rfl (lv_at hl 2 rfl) ?_
            refine va_get (D := G.1) (ci := 9) (v := .ref (a0 10)) (C := RX9) (T := TX9) (N := 15) hx hb hts inlX9 hown hK hPD.1 0 rfl rfl 10 (by decide) (hts _ gw_390) (fun _ h9 => h9) rfl dX9_beat_89 ?_
            refine va_astB hx hb hK hPD.1 hPD.2 hS 4 2 21 0 rfl rfl rfl rfl hi_3 eb_4 dX9_beat_92 (fun H locs hP hD hS => ?_)
            have hPD : WD G DA (wX9 G h0 a0 wk f0 A0 ++ (wX7 G (a0 0) a1 q_2.2.2 A1 ++ ([((a0 5), .inl (G.2.2.2, 8, .inr (.inr (.inr (.inr (fun k => some (va_up g2 6 (a0 10) k))))))), (g2 0, .inr (0, [.ref (aB2 0 0), .int (fB2 0 1)])), (aB2 0 0, .inl (G.2.2.1, 48, .inl (AB2 0 0))), (g2 1, .inr (0, [.ref (aB2 1 0), .int (fB2 1 1)])), (aB2 1 0, .inl (G.2.2.1, 48, .inl (AB2 1 0))), (g2 2, .inr (0, [.ref (aB2 2 0), .int (fB2 2 1)])), (aB2 2 0, .inl (G.2.2.1, 48, .inl (AB2 2 0))), (g2 3, .inr (0, [.ref (aB2 3 0), .int (fB2 3 1)])), (aB2 3 0, .inl (G.2.2.1, 48, .inl (AB2 3 0))), (g2 4, .inr (0, [.ref (aB2 4 0), .int (fB2 4 1)])), (aB2 4 0, .inl (G.2.2.1, 48, .inl (AB2 4 0))), (g2 5, .inr (0, [.ref (aB2 5 0), .int (fB2 5 1)])), (aB2 5 0, .inl (G.2.2.1, 48, .inl (AB2 5 0))), (g2 6, .inr (0, [.ref (aB2 6 0), .int (fB2 6 1)])), (aB2 6 0, .inl (G.2.2.1, 48, .inl (AB2 6 0))), (g2 7, .inr (0, [.ref (aB2 7 0), .int (fB2 7 1)])), (aB2 7 0, .inl (G.2.2.1, 48, .inl (AB2 7 0)))] ++ (wX0 G (a0 10) a3 q_2.2.1 q_2.1)))) H := ⟨hP, hD⟩
            clear hP hD
            refine lv_aload_n hx hb dX9_beat_93 rfl (lv_at hl 2 rfl) ?_
            refine lv_aload hx hb dX9_beat_94 (lv_at hl 0 rfl) ?_
            refine va_put (D := G.1) (ci := 9) (v := .ref (g2 6)) (ty := .object "IdleCrimes$Beat") (C := RX9) (T := TX9) (N := 15) hx hb hts inlX9 tyX9 tyX9_ok nmX9 hown hK hPD.1 hPD.2 hS 0 rfl rfl 10 (by decide) (hts _ gw_390) (fun _ h9 => h9) rfl (by decide +kernel) rfl rfl (Nat.le_of_ble_eq_true rfl) dX9_beat_96 (fun H locs hP hD hS => ?_)
            have hPD : WD G DA (wX9 G h0 (va_up a0 10 (g2 6)) wk f0 A0 ++ (wX7 G (a0 0) a1 q_2.2.2 A1 ++ ([((a0 5), .inl (G.2.2.2, 8, .inr (.inr (.inr (.inr (fun k => some (va_up g2 6 (a0 10) k))))))), (g2 0, .inr (0, [.ref (aB2 0 0), .int (fB2 0 1)])), (aB2 0 0, .inl (G.2.2.1, 48, .inl (AB2 0 0))), (g2 1, .inr (0, [.ref (aB2 1 0), .int (fB2 1 1)])), (aB2 1 0, .inl (G.2.2.1, 48, .inl (AB2 1 0))), (g2 2, .inr (0, [.ref (aB2 2 0), .int (fB2 2 1)])), (aB2 2 0, .inl (G.2.2.1, 48, .inl (AB2 2 0))), (g2 3, .inr (0, [.ref (aB2 3 0), .int (fB2 3 1)])), (aB2 3 0, .inl (G.2.2.1, 48, .inl (AB2 3 0))), (g2 4, .inr (0, [.ref (aB2 4 0), .int (fB2 4 1)])), (aB2 4 0, .inl (G.2.2.1, 48, .inl (AB2 4 0))), (g2 5, .inr (0, [.ref (aB2 5 0), .int (fB2 5 1)])), (aB2 5 0, .inl (G.2.2.1, 48, .inl (AB2 5 0))), (g2 6, .inr (0, [.ref (aB2 6 0), .int (fB2 6 1)])), (aB2 6 0, .inl (G.2.2.1, 48, .inl (AB2 6 0))), (g2 7, .inr (0, [.ref (aB2 7 0), .int (fB2 7 1)])), (aB2 7 0, .inl (G.2.2.1, 48, .inl (AB2 7 0)))] ++ (wX0 G (a0 10) a3 q_2.2.1 q_2.1)))) H := ⟨hP, hD⟩
            clear hP hD
            refine lv_aload_n hx hb dX9_beat_99 rfl (lv_at hl 2 rfl) ?_
            refine va_get (D := G.1) (ci := 9) (v := .ref (a0 0)) (C := RX9) (T := TX9) (N := 15) hx hb hts inlX9 hown hK hPD.1 0 rfl rfl 0 (by decide) (hts _ gw_363) (fun _ h9 => h9) rfl dX9_beat_100 ?_
            refine lv_iload_n hx hb dX9_beat_103 rfl (lv_at hl 1 rfl) ?_
            refine kVI (As := [.int (q_2.2.1 1)]) (rest := []) C0 (kt_X7_answer l G (a0 0) a1 q_2.2.2 A1 (q_2.2.1 1)) gi_V_X9_149_X7_answer (n := 1) rfl (by decide +kernel) rfl ⟨rfl, rfl, Nat.le_of_ble_eq_true rfl, Nat.le_of_ble_eq_true rfl⟩ hPD hS 2 7 rfl rfl rfl [2, 3] [0, 1, 4, 5, 6, 7, 8, 9, 10, 11, 12, 13, 14, 15, 16, 17, 18, 19, 20, 21, 22] [0, 1, 21, 22, 2, 3, 4, 5, 6, 7, 8, 9, 10, 11, 12, 13, 14, 15, 16, 17, 18, 19, 20] (wr := pick (wX9 G h0 (va_up a0 10 (g2 6)) wk f0 A0 ++ (wX7 G (a0 0) a1 q_2.2.2 A1 ++ ([((a0 5), .inl (G.2.2.2, 8, .inr (.inr (.inr (.inr (fun k => some (va_up g2 6 (a0 10) k))))))), (g2 0, .inr (0, [.ref (aB2 0 0), .int (fB2 0 1)])), (aB2 0 0, .inl (G.2.2.1, 48, .inl (AB2 0 0))), (g2 1, .inr (0, [.ref (aB2 1 0), .int (fB2 1 1)])), (aB2 1 0, .inl (G.2.2.1, 48, .inl (AB2 1 0))), (g2 2, .inr (0, [.ref (aB2 2 0), .int (fB2 2 1)])), (aB2 2 0, .inl (G.2.2.1, 48, .inl (AB2 2 0))), (g2 3, .inr (0, [.ref (aB2 3 0), .int (fB2 3 1)])), (aB2 3 0, .inl (G.2.2.1, 48, .inl (AB2 3 0))), (g2 4, .inr (0, [.ref (aB2 4 0), .int (fB2 4 1)])), (aB2 4 0, .inl (G.2.2.1, 48, .inl (AB2 4 0))), (g2 5, .inr (0, [.ref (aB2 5 0), .int (fB2 5 1)])), (aB2 5 0, .inl (G.2.2.1, 48, .inl (AB2 5 0))), (g2 6, .inr (0, [.ref (aB2 6 0), .int (fB2 6 1)])), (aB2 6 0, .inl (G.2.2.1, 48, .inl (AB2 6 0))), (g2 7, .inr (0, [.ref (aB2 7 0), .int (fB2 7 1)])), (aB2 7 0, .inl (G.2.2.1, 48, .inl (AB2 7 0)))] ++ (wX0 G (a0 10) a3 q_2.2.1 q_2.1)))) [0, 1, 4, 5, 6, 7, 8, 9, 10, 11, 12, 13, 14, 15, 16, 17, 18, 19, 20, 21, 22]) (wN := (wX9 G h0 (va_up a0 10 (g2 6)) wk f0 A0 ++ (wX7 G (a0 0) a1 q_2.2.2 A1 ++ ([((a0 5), .inl (G.2.2.2, 8, .inr (.inr (.inr (.inr (fun k => some (va_up g2 6 (a0 10) k))))))), (g2 0, .inr (0, [.ref (aB2 0 0), .int (fB2 0 1)])), (aB2 0 0, .inl (G.2.2.1, 48, .inl (AB2 0 0))), (g2 1, .inr (0, [.ref (aB2 1 0), .int (fB2 1 1)])), (aB2 1 0, .inl (G.2.2.1, 48, .inl (AB2 1 0))), (g2 2, .inr (0, [.ref (aB2 2 0), .int (fB2 2 1)])), (aB2 2 0, .inl (G.2.2.1, 48, .inl (AB2 2 0))), (g2 3, .inr (0, [.ref (aB2 3 0), .int (fB2 3 1)])), (aB2 3 0, .inl (G.2.2.1, 48, .inl (AB2 3 0))), (g2 4, .inr (0, [.ref (aB2 4 0), .int (fB2 4 1)])), (aB2 4 0, .inl (G.2.2.1, 48, .inl (AB2 4 0))), (g2 5, .inr (0, [.ref (aB2 5 0), .int (fB2 5 1)])), (aB2 5 0, .inl (G.2.2.1, 48, .inl (AB2 5 0))), (g2 6, .inr (0, [.ref (aB2 6 0), .int (fB2 6 1)])), (aB2 6 0, .inl (G.2.2.1, 48, .inl (AB2 6 0))), (g2 7, .inr (0, [.ref (aB2 7 0), .int (fB2 7 1)])), (aB2 7 0, .inl (G.2.2.1, 48, .inl (AB2 7 0)))] ++ (wX0 G (a0 10) a3 q_2.2.1 q_2.1))))) rfl rfl rfl rfl rfl hl.1 (Nat.le_of_ble_eq_true rfl) dX9_beat_104 (fun H locs hPD hS => ?_)
            obtain rfl := Option.some.inj h
            exact eIE (some 6) C0 hPD [0, 1, 2, 3, 4, 5, 6, 7, 8, 9, 10, 11, 12, 13, 14, 15, 16, 21, 22, 19, 20, 17, 18] rfl rfl hS rfl dX9_beat_107
          · refine lv_astore (lv' := [(4, .ref (g2 7)), (3, .int (q_2.2.1 1)), (0, .ref h0), (1, .int p1), (2, .int p2)]) hx hb dX9_beat_81 hl (by decide) rfl (fun ls hl => ?_)
            refine lv_aload_n hx hb dX9_beat_83 rfl (lv_at hl 2 rfl) ?_
            refine va_get (D := G.1) (ci := 9) (v := .ref (a0 5)) (C := RX9) (T := TX9) (N := 15) hx hb hts inlX9 hown hK hPD.1 0 rfl rfl 5 (by decide) (hts _ gw_389) (fun _ h9 => h9) rfl dX9_beat_84 ?_
            refine lv_iload_n hx hb dX9_beat_87 rfl (lv_at hl 3 rfl) ?_
            refine lv_aload_n hx hb dX9_beat_88 rfl (lv_at hl 2 rfl) ?_
            refine va_get (D := G.1) (ci := 9) (v := .ref (a0 10)) (C := RX9) (T := TX9) (N := 15) hx hb hts inlX9 hown hK hPD.1 0 rfl rfl 10 (by decide) (hts _ gw_390) (fun _ h9 => h9) rfl dX9_beat_89 ?_
            refine va_astB hx hb hK hPD.1 hPD.2 hS 4 2 21 0 rfl rfl rfl rfl hi_3 eb_4 dX9_beat_92 (fun H locs hP hD hS => ?_)
            have hPD : WD G DA (wX9 G h0 a0 wk f0 A0 ++ (wX7 G (a0 0) a1 q_2.2.2 A1 ++ ([((a0 5), .inl (G.2.2.2, 8, .inr (.inr (.inr (.inr (fun k => some (va_up g2 7 (a0 10) k))))))), (g2 0, .inr (0, [.ref (aB2 0 0), .int (fB2 0 1)])), (aB2 0 0, .inl (G.2.2.1, 48, .inl (AB2 0 0))), (g2 1, .inr (0, [.ref (aB2 1 0), .int (fB2 1 1)])), (aB2 1 0, .inl (G.2.2.1, 48, .inl (AB2 1 0))), (g2 2, .inr (0, [.ref (aB2 2 0), .int (fB2 2 1)])), (aB2 2 0, .inl (G.2.2.1, 48, .inl (AB2 2 0))), (g2 3, .inr (0, [.ref (aB2 3 0), .int (fB2 3 1)])), (aB2 3 0, .inl (G.2.2.1, 48, .inl (AB2 3 0))), (g2 4, .inr (0, [.ref (aB2 4 0), .int (fB2 4 1)])), (aB2 4 0, .inl (G.2.2.1, 48, .inl (AB2 4 0))), (g2 5, .inr (0, [.ref (aB2 5 0), .int (fB2 5 1)])), (aB2 5 0, .inl (G.2.2.1, 48, .inl (AB2 5 0))), (g2 6, .inr (0, [.ref (aB2 6 0), .int (fB2 6 1)])), (aB2 6 0, .inl (G.2.2.1, 48, .inl (AB2 6 0))), (g2 7, .inr (0, [.ref (aB2 7 0), .int (fB2 7 1)])), (aB2 7 0, .inl (G.2.2.1, 48, .inl (AB2 7 0)))] ++ (wX0 G (a0 10) a3 q_2.2.1 q_2.1)))) H := ⟨hP, hD⟩
            clear hP hD
            refine lv_aload_n hx hb dX9_beat_93 rfl (lv_at hl 2 rfl) ?_
            refine lv_aload hx hb dX9_beat_94 (lv_at hl 0 rfl) ?_
            refine va_put (D := G.1) (ci := 9) (v := .ref (g2 7)) (ty := .object "IdleCrimes$Beat") (C := RX9) (T := TX9) (N := 15) hx hb hts inlX9 tyX9 tyX9_ok nmX9 hown hK hPD.1 hPD.2 hS 0 rfl rfl 10 (by decide) (hts _ gw_390) (fun _ h9 => h9) rfl (by decide +kernel) rfl rfl (Nat.le_of_ble_eq_true rfl) dX9_beat_96 (fun H locs hP hD hS => ?_)
            have hPD : WD G DA (wX9 G h0 (va_up a0 10 (g2 7)) wk f0 A0 ++ (wX7 G (a0 0) a1 q_2.2.2 A1 ++ ([((a0 5), .inl (G.2.2.2, 8, .inr (.inr (.inr (.inr (fun k => some (va_up g2 7 (a0 10) k))))))), (g2 0, .inr (0, [.ref (aB2 0 0), .int (fB2 0 1)])), (aB2 0 0, .inl (G.2.2.1, 48, .inl (AB2 0 0))), (g2 1, .inr (0, [.ref (aB2 1 0), .int (fB2 1 1)])), (aB2 1 0, .inl (G.2.2.1, 48, .inl (AB2 1 0))), (g2 2, .inr (0, [.ref (aB2 2 0), .int (fB2 2 1)])), (aB2 2 0, .inl (G.2.2.1, 48, .inl (AB2 2 0))), (g2 3, .inr (0, [.ref (aB2 3 0), .int (fB2 3 1)])), (aB2 3 0, .inl (G.2.2.1, 48, .inl (AB2 3 0))), (g2 4, .inr (0, [.ref (aB2 4 0), .int (fB2 4 1)])), (aB2 4 0, .inl (G.2.2.1, 48, .inl (AB2 4 0))), (g2 5, .inr (0, [.ref (aB2 5 0), .int (fB2 5 1)])), (aB2 5 0, .inl (G.2.2.1, 48, .inl (AB2 5 0))), (g2 6, .inr (0, [.ref (aB2 6 0), .int (fB2 6 1)])), (aB2 6 0, .inl (G.2.2.1, 48, .inl (AB2 6 0))), (g2 7, .inr (0, [.ref (aB2 7 0), .int (fB2 7 1)])), (aB2 7 0, .inl (G.2.2.1, 48, .inl (AB2 7 0)))] ++ (wX0 G (a0 10) a3 q_2.2.1 q_2.1)))) H := ⟨hP, hD⟩
            clear hP hD
            refine lv_aload_n hx hb dX9_beat_99 rfl (lv_at hl 2 rfl) ?_
            refine va_get (D := G.1) (ci := 9) (v := .ref (a0 0)) (C := RX9) (T := TX9) (N := 15) hx hb hts inlX9 hown hK hPD.1 0 rfl rfl 0 (by decide) (hts _ gw_363) (fun _ h9 => h9) rfl dX9_beat_100 ?_
            refine lv_iload_n hx hb dX9_beat_103 rfl (lv_at hl 1 rfl) ?_
            refine kVI (As := [.int (q_2.2.1 1)]) (rest := []) C0 (kt_X7_answer l G (a0 0) a1 q_2.2.2 A1 (q_2.2.1 1)) gi_V_X9_149_X7_answer (n := 1) rfl (by decide +kernel) rfl ⟨rfl, rfl, Nat.le_of_ble_eq_true rfl, Nat.le_of_ble_eq_true rfl⟩ hPD hS 2 7 rfl rfl rfl [2, 3] [0, 1, 4, 5, 6, 7, 8, 9, 10, 11, 12, 13, 14, 15, 16, 17, 18, 19, 20, 21, 22] [0, 1, 21, 22, 2, 3, 4, 5, 6, 7, 8, 9, 10, 11, 12, 13, 14, 15, 16, 17, 18, 19, 20] (wr := pick (wX9 G h0 (va_up a0 10 (g2 7)) wk f0 A0 ++ (wX7 G (a0 0) a1 q_2.2.2 A1 ++ ([((a0 5), .inl (G.2.2.2, 8, .inr (.inr (.inr (.inr (fun k => some (va_up g2 7 (a0 10) k))))))), (g2 0, .inr (0, [.ref (aB2 0 0), .int (fB2 0 1)])), (aB2 0 0, .inl (G.2.2.1, 48, .inl (AB2 0 0))), (g2 1, .inr (0, [.ref (aB2 1 0), .int (fB2 1 1)])), (aB2 1 0, .inl (G.2.2.1, 48, .inl (AB2 1 0))), (g2 2, .inr (0, [.ref (aB2 2 0), .int (fB2 2 1)])), (aB2 2 0, .inl (G.2.2.1, 48, .inl (AB2 2 0))), (g2 3, .inr (0, [.ref (aB2 3 0), .int (fB2 3 1)])), (aB2 3 0, .inl (G.2.2.1, 48, .inl (AB2 3 0))), (g2 4, .inr (0, [.ref (aB2 4 0), .int (fB2 4 1)])), (aB2 4 0, .inl (G.2.2.1, 48, .inl (AB2 4 0))), (g2 5, .inr (0, [.ref (aB2 5 0), .int (fB2 5 1)])), (aB2 5 0, .inl (G.2.2.1, 48, .inl (AB2 5 0))), (g2 6, .inr (0, [.ref (aB2 6 0), .int (fB2 6 1)])), (aB2 6 0, .inl (G.2.2.1, 48, .inl (AB2 6 0))), (g2 7, .inr (0, [.ref (aB2 7 0), .int (fB2 7 1)])), (aB2 7 0, .inl (G.2.2.1, 48, .inl (AB2 7 0)))] ++ (wX0 G (a0 10) a3 q_2.2.1 q_2.1)))) [0, 1, 4, 5, 6, 7, 8, 9, 10, 11, 12, 13, 14, 15, 16, 17, 18, 19, 20, 21, 22]) (wN := (wX9 G h0 (va_up a0 10 (g2 7)) wk f0 A0 ++ (wX7 G (a0 0) a1 q_2.2.2 A1 ++ ([((a0 5), .inl (G.2.2.2, 8, .inr (.inr (.inr (.inr (fun k => some (va_up g2 7 (a0 10) k))))))), (g2 0, .inr (0, [.ref (aB2 0 0), .int (fB2 0 1)])), (aB2 0 0, .inl (G.2.2.1, 48, .inl (AB2 0 0))), (g2 1, .inr (0, [.ref (aB2 1 0), .int (fB2 1 1)])), (aB2 1 0, .inl (G.2.2.1, 48, .inl (AB2 1 0))), (g2 2, .inr (0, [.ref (aB2 2 0), .int (fB2 2 1)])), (aB2 2 0, .inl (G.2.2.1, 48, .inl (AB2 2 0))), (g2 3, .inr (0, [.ref (aB2 3 0), .int (fB2 3 1)])), (aB2 3 0, .inl (G.2.2.1, 48, .inl (AB2 3 0))), (g2 4, .inr (0, [.ref (aB2 4 0), .int (fB2 4 1)])), (aB2 4 0, .inl (G.2.2.1, 48, .inl (AB2 4 0))), (g2 5, .inr (0, [.ref (aB2 5 0), .int (fB2 5 1)])), (aB2 5 0, .inl (G.2.2.1, 48, .inl (AB2 5 0))), (g2 6, .inr (0, [.ref (aB2 6 0), .int (fB2 6 1)])), (aB2 6 0, .inl (G.2.2.1, 48, .inl (AB2 6 0))), (g2 7, .inr (0, [.ref (aB2 7 0), .int (fB2 7 1)])), (aB2 7 0, .inl (G.2.2.1, 48, .inl (AB2 7 0)))] ++ (wX0 G (a0 10) a3 q_2.2.1 q_2.1))))) rfl rfl rfl rfl rfl hl.1 (Nat.le_of_ble_eq_true rfl) dX9_beat_104 (fun H locs hPD hS => ?_)
            obtain rfl := Option.some.inj h
            exact eIE (some 7) C0 hPD [0, 1, 2, 3, 4, 5, 6, 7, 8, 9, 10, 11, 12, 13, 14, 15, 16, 17, 18, 21, 22, 19, 20] rfl rfl hS rfl dX9_beat_107
      · have h := (if_pos cc1).symm.trans h
        refine lv_iconst (v := (-1)) hx hb dX9_beat_36 (by decide) ?_
        obtain rfl := Option.some.inj h
        exact eIE (none) C0 hPD [0, 1, 2, 3, 4, 5, 6, 7, 8, 9, 10, 11, 12, 13, 14, 15, 16, 17, 18, 19, 20, 21, 22] rfl rfl hS rfl dX9_beat_37
end WALK
