section WALK
variable {p : Program} {l : Launch} {e : Env} {s : State} {m : MethodId} {args : Array Value} {below : List Frame} {meth : Method} {c : Code} {G : Gp} {DA : Nat → Prop}
abbrev rmX9_sumOf : Room := { frames := 2, cells := 0, slots := 0, locals := 43 }
set_option maxRecDepth 100000 in
set_option maxHeartbeats 4000000 in
theorem ww_f9_sumOf_b4  (C0 : Cx cX9_sumOf 4 (some .int) RX9 p s m args meth c G DA) {q0 : Nat} {n0 : Nat} {xs0 : Nat → Int32} {p1 : Int32} (hn0 : n0 < 2147483648) {k4 : Int32 → Int32 → Option (Int32)} {res : Int32}  (hk4 : ∀ (l2 : Int32) (l3 : Int32), k4 l2 l3 = some res → ∀ (H : Heap) (locs : List Loc) (ls : Array Slot), WD G DA (wI G q0 n0 xs0) H → va_S DA s.heap H locs → lv_has ls 4 [(0, .ref q0), (1, .int p1), (2, .int l2), (3, .int l3)] → W p l e rmX9_sumOf s m args below meth c H locs 0 0 (MQ below (QI G DA res (wI G q0 n0 xs0)) args s 0 0 DA) (F0 m 4 ls [])) : ∀ (l2 : Int32) (l3 : Int32), f9_sumOf_b4 n0 xs0 p1  k4 l2 l3 = some res → ∀ (H : Heap) (locs : List Loc) (ls : Array Slot), WD G DA (wI G q0 n0 xs0) H → va_S DA s.heap H locs → lv_has ls 4 [(0, .ref q0), (1, .int p1), (2, .int l2), (3, .int l3)] → W p l e rmX9_sumOf s m args below meth c H locs 0 0 (MQ below (QI G DA res (wI G q0 n0 xs0)) args s 0 0 DA) (F0 m 4 ls []) := by
  obtain ⟨hx, hb, hml, hown, hts⟩ := C0.1
  have hK := C0.2.2.2.1
  intro l2 l3 h _ _ _ hPD hS hl
  unfold f9_sumOf_b4 at h
  refine lv_iload_n hx hb dX9_sumOf_4 rfl (lv_at hl 3 rfl) ?_
  refine lv_aload_n hx hb dX9_sumOf_5 rfl (lv_at hl 0 rfl) ?_
  refine va_alen (v := nI n0) hx hb hK hPD.1 0 1 rfl rfl rfl dX9_sumOf_6 ?_
  refine lv_icmp_ge (tgt := 30) hx hb dX9_sumOf_7 (by decide) (fun cc1 => ?_) (fun cc1 => ?_)
  · have h := (if_pos cc1).symm.trans h
    refine lv_iload_n hx hb dX9_sumOf_30 rfl (lv_at hl 2 rfl) ?_
    obtain rfl := Option.some.inj h
    exact eI C0 hPD.1 hPD.2 hS rfl dX9_sumOf_31
  · have h := (if_neg cc1).symm.trans h
    refine lv_iload_n hx hb dX9_sumOf_10 rfl (lv_at hl 1 rfl) ?_
    refine lv_iload_n hx hb dX9_sumOf_11 rfl (lv_at hl 3 rfl) ?_
    refine kSI (As := [.int p1, .int l3]) (rest := []) C0 (kt_X9_has l G  p1 l3) gi_S_X9_290_X9_has (n := 2) rfl (by decide +kernel) ⟨rfl, rfl, Nat.le_of_ble_eq_true rfl, Nat.le_of_ble_eq_true rfl⟩ hPD hS [] [0] [0] (wN := (wI G q0 n0 xs0)) rfl rfl rfl rfl rfl hl.1 (Nat.le_of_ble_eq_true rfl) dX9_sumOf_12 (fun H locs hPD hS => ?_)
    refine lv_if_eq (tgt := 24) hx hb dX9_sumOf_15 (by decide) (fun cc1 => ?_) (fun cc1 => ?_)
    · have h := (if_pos cc1).symm.trans h
      refine lv_iinc (v := l3 + 1) (lv' := [(3, .int (l3 + 1)), (0, .ref q0), (1, .int p1), (2, .int l2)]) hx hb dX9_sumOf_24 hl (k := 3) rfl rfl (by decide) rfl (fun ls hl => ?_)
      refine lv_goto (tgt := 4) hx hb dX9_sumOf_27 (by decide) ?_
      exact hk4 l2 (l3 + 1) h _ _ _ hPD hS (lv_sub hl [1, 2, 3, 0] rfl)
    · have h := (if_neg cc1).symm.trans h
      refine lv_iload_n hx hb dX9_sumOf_18 rfl (lv_at hl 2 rfl) ?_
      refine lv_aload_n hx hb dX9_sumOf_19 rfl (lv_at hl 0 rfl) ?_
      refine lv_iload_n hx hb dX9_sumOf_20 rfl (lv_at hl 3 rfl) ?_
      obtain ⟨hi_1, h⟩ := ob h
      refine va_iald hx hb hK hPD.1 0 1 rfl rfl hi_1 dX9_sumOf_21 ?_
      refine lv_iadd hx hb dX9_sumOf_22 ?_
      refine lv_istore_n (lv' := [(2, .int (l2 + (gx xs0 l3))), (0, .ref q0), (1, .int p1), (3, .int l3)]) hx hb dX9_sumOf_23 rfl hl (by decide) rfl (fun ls hl => ?_)
      refine lv_iinc (v := l3 + 1) (lv' := [(3, .int (l3 + 1)), (2, .int (l2 + (gx xs0 l3))), (0, .ref q0), (1, .int p1)]) hx hb dX9_sumOf_24 hl (k := 3) rfl rfl (by decide) rfl (fun ls hl => ?_)
      refine lv_goto (tgt := 4) hx hb dX9_sumOf_27 (by decide) ?_
      exact hk4 (l2 + (gx xs0 l3)) (l3 + 1) h _ _ _ hPD hS (lv_sub hl [2, 3, 1, 0] rfl)
set_option maxRecDepth 100000 in
set_option maxHeartbeats 4000000 in
theorem ww_f9_sumOf_l4  (C0 : Cx cX9_sumOf 4 (some .int) RX9 p s m args meth c G DA) {q0 : Nat} {n0 : Nat} {xs0 : Nat → Int32} {p1 : Int32} (hn0 : n0 < 2147483648)  {res : Int32}  : ∀ (n : Nat) (l2 : Int32) (l3 : Int32), f9_sumOf_l4 n0 xs0 p1  n l2 l3 = some res → ∀ (H : Heap) (locs : List Loc) (ls : Array Slot), WD G DA (wI G q0 n0 xs0) H → va_S DA s.heap H locs → lv_has ls 4 [(0, .ref q0), (1, .int p1), (2, .int l2), (3, .int l3)] → W p l e rmX9_sumOf s m args below meth c H locs 0 0 (MQ below (QI G DA res (wI G q0 n0 xs0)) args s 0 0 DA) (F0 m 4 ls []) := by
  intro n
  induction n with
  | zero => intro l2 l3 h; cases h
  | succ n ih => intro l2 l3 h; exact ww_f9_sumOf_b4 C0 hn0  ih l2 l3 h
set_option maxRecDepth 100000 in
set_option maxHeartbeats 4000000 in
theorem kt_X9_sumOf (l : Launch) (G : Gp) (q0 : Nat) (n0 : Nat) (xs0 : Nat → Int32) (p1 : Int32) (hn0 : n0 < 2147483648) : ∀ {r : Int32}, f9_sumOf n0 xs0 p1 = some r → CtrI l yX9_sumOf cX9_sumOf 4 (some .int) rmX9_sumOf G [.ref q0, .int p1] (wI G q0 n0 xs0) r (wI G q0 n0 xs0) := by
  intro res h
  refine ctrI_of (cc := cX9_sumOf) (maxL := 4) (ret := (some .int)) (by decide +kernel) rfl (Nat.le_of_ble_eq_true rfl) (fun p e s m below meth c DA C0 hP hD ls hl => ?_)
  have hPD : WD G DA (wI G q0 n0 xs0) s.heap := ⟨hP, hD⟩
  have hS : va_S DA s.heap s.heap [] := va_S.rf
  have hl : lv_has ls 4 [(0, .ref q0), (1, .int p1)] := hl
  obtain ⟨hx, hb, hml, hown, hts⟩ := C0.1
  have hK := C0.2.2.2.1
  unfold f9_sumOf at h
  refine lv_iconst (v := 0) hx hb dX9_sumOf_0 (by decide) ?_
  refine lv_istore_n (lv' := [(2, .int 0), (0, .ref q0), (1, .int p1)]) hx hb dX9_sumOf_1 rfl hl (by decide) rfl (fun ls hl => ?_)
  refine lv_iconst (v := 0) hx hb dX9_sumOf_2 (by decide) ?_
  refine lv_istore_n (lv' := [(3, .int 0), (2, .int 0), (0, .ref q0), (1, .int p1)]) hx hb dX9_sumOf_3 rfl hl (by decide) rfl (fun ls hl => ?_)
  exact ww_f9_sumOf_l4 C0 hn0 NF 0 0 h _ _ _ hPD hS (lv_sub hl [2, 3, 1, 0] rfl)
abbrev rmX5_know : Room := { frames := 3, cells := 0, slots := 0, locals := 66 }
set_option maxRecDepth 100000 in
set_option maxHeartbeats 4000000 in
theorem kt_X5_know (l : Launch) (G : Gp) (h0 : Nat) (a0 : Nat → Nat) (h1 : Nat) (a1 : Nat → Nat) (f0 : Nat → Int32) (A0 : Nat → Nat → Int32) (f1 : Nat → Int32) (A1 : Nat → Nat → Int32) (p2 : Int32) (p3 : Int32) : ∀ {r : (Nat → Nat → Int32)}, f5_know f0 A0 f1 A1 p2 p3 = some r → CtrV l yX5_know cX5_know 4 none rmX5_know G [.ref h0, .ref h1, .int p2, .int p3] (wX5 G h0 a0 f0 A0 ++ (wX6 G h1 a1 f1 A1)) (wX5 G h0 a0 f0 r ++ (wX6 G h1 a1 f1 A1)) := by
  intro res h
  refine ctrV_of (cc := cX5_know) (maxL := 4) (ret := none) (by decide +kernel) rfl (Nat.le_of_ble_eq_true rfl) (fun p e s m below meth c DA C0 hP hD ls hl => ?_)
  have hPD : WD G DA (wX5 G h0 a0 f0 A0 ++ (wX6 G h1 a1 f1 A1)) s.heap := ⟨hP, hD⟩
  have hS : va_S DA s.heap s.heap [] := va_S.rf
  have hl : lv_has ls 4 [(0, .ref h0), (1, .ref h1), (2, .int p2), (3, .int p3)] := hl
  obtain ⟨hx, hb, hml, hown, hts⟩ := C0.1
  have hK := C0.2.2.2.1
  unfold f5_know at h
  refine lv_aload_n hx hb dX5_know_0 rfl (lv_at hl 0 rfl) ?_
  refine va_get (D := G.1) (ci := 5) (v := .ref (a0 1)) (C := RX5) (T := TX5) (N := 4) hx hb hts inlX5 hown hK hPD.1 0 rfl rfl 1 (by decide) (hts _ gw_280) (fun _ h9 => h9) rfl dX5_know_1 ?_
  refine lv_iconst (v := 0) hx hb dX5_know_4 (by decide) ?_
  refine lv_iload_n hx hb dX5_know_5 rfl (lv_at hl 2 rfl) ?_
  obtain ⟨z_1, ez_1, h⟩ := lvl h
  have kc := kt_X9_put l G (a0 1) 8 (A0 1) 0 p2 (by decide)
  rw [← ez_1] at kc
  clear ez_1
  refine kNV (As := [.ref (a0 1), .int 0, .int p2]) (rest := []) C0 (kc) gi_U_X9_put (host := "IdleCrimes") (index := 75) (List.mem_of_getElem? (i := 26) rfl) gw_6 gw_19 (n := 3) rfl (by decide +kernel) ⟨rfl, rfl, Nat.le_of_ble_eq_true rfl, Nat.le_of_ble_eq_true rfl⟩ hPD hS [2] [0, 1, 3, 4, 5, 6, 7, 8] [0, 1, 8, 2, 3, 4, 5, 6, 7] (wN := (wX5 G h0 a0 f0 (updA A0 1 z_1) ++ (wX6 G h1 a1 f1 A1))) rfl rfl rfl rfl rfl hl.1 (Nat.le_of_ble_eq_true rfl) dX5_know_6 (fun H locs hPD hS => ?_)
  obtain ⟨A0_2, eA0_2, h⟩ := lvl h
  have hPD : WD G DA (wX5 G h0 a0 f0 A0_2 ++ (wX6 G h1 a1 f1 A1)) H := by rw [eA0_2]; exact hPD
  clear eA0_2
  refine lv_aload_n hx hb dX5_know_9 rfl (lv_at hl 0 rfl) ?_
  refine va_get (D := G.1) (ci := 5) (v := .ref (a0 1)) (C := RX5) (T := TX5) (N := 4) hx hb hts inlX5 hown hK hPD.1 0 rfl rfl 1 (by decide) (hts _ gw_280) (fun _ h9 => h9) rfl dX5_know_10 ?_
  refine lv_iconst (v := 1) hx hb dX5_know_13 (by decide) ?_
  refine lv_aload_n hx hb dX5_know_14 rfl (lv_at hl 1 rfl) ?_
  refine va_get (D := G.1) (ci := 6) (v := .ref (a1 0)) (C := RX6) (T := TX6) (N := 10) hx hb hts inlX6 hown hK hPD.1 3 rfl rfl 0 (by decide) (hts _ gw_281) (fun _ h9 => h9) rfl dX5_know_15 ?_
  refine lv_iload_n hx hb dX5_know_18 rfl (lv_at hl 2 rfl) ?_
  refine kNI (As := [.ref (a1 0), .int p2]) (rest := [.int 1, .ref (a0 1)]) C0 (kt_X9_at l G (a1 0) 16 (A1 0) p2 (by decide)) gi_U_X9_at (host := "IdleCrimes") (index := 49) (List.mem_of_getElem? (i := 24) rfl) gw_6 gw_7 (n := 2) rfl (by decide +kernel) ⟨rfl, rfl, Nat.le_of_ble_eq_true rfl, Nat.le_of_ble_eq_true rfl⟩ hPD hS [4] [0, 1, 2, 3, 5, 6, 7, 8] [0, 1, 2, 3, 8, 4, 5, 6, 7] (wN := (wX5 G h0 a0 f0 A0_2 ++ (wX6 G h1 a1 f1 A1))) rfl rfl rfl rfl rfl hl.1 (Nat.le_of_ble_eq_true rfl) dX5_know_19 (fun H locs hPD hS => ?_)
  obtain ⟨z_3, ez_3, h⟩ := lvl h
  have kc := kt_X9_put l G (a0 1) 8 (A0_2 1) 1 (f9_at 16 (A1 0) p2) (by decide)
  rw [← ez_3] at kc
  clear ez_3
  refine kNV (As := [.ref (a0 1), .int 1, .int (f9_at 16 (A1 0) p2)]) (rest := []) C0 (kc) gi_U_X9_put (host := "IdleCrimes") (index := 75) (List.mem_of_getElem? (i := 26) rfl) gw_6 gw_19 (n := 3) rfl (by decide +kernel) ⟨rfl, rfl, Nat.le_of_ble_eq_true rfl, Nat.le_of_ble_eq_true rfl⟩ hPD hS [2] [0, 1, 3, 4, 5, 6, 7, 8] [0, 1, 8, 2, 3, 4, 5, 6, 7] (wN := (wX5 G h0 a0 f0 (updA A0_2 1 z_3) ++ (wX6 G h1 a1 f1 A1))) rfl rfl rfl rfl rfl hl.1 (Nat.le_of_ble_eq_true rfl) dX5_know_22 (fun H locs hPD hS => ?_)
  obtain ⟨A0_4, eA0_4, h⟩ := lvl h
  have hPD : WD G DA (wX5 G h0 a0 f0 A0_4 ++ (wX6 G h1 a1 f1 A1)) H := by rw [eA0_4]; exact hPD
  clear eA0_4
  refine lv_aload_n hx hb dX5_know_25 rfl (lv_at hl 0 rfl) ?_
  refine va_get (D := G.1) (ci := 5) (v := .ref (a0 1)) (C := RX5) (T := TX5) (N := 4) hx hb hts inlX5 hown hK hPD.1 0 rfl rfl 1 (by decide) (hts _ gw_280) (fun _ h9 => h9) rfl dX5_know_26 ?_
  refine lv_iconst (v := 2) hx hb dX5_know_29 (by decide) ?_
  refine lv_aload_n hx hb dX5_know_30 rfl (lv_at hl 1 rfl) ?_
  refine va_get (D := G.1) (ci := 6) (v := .ref (a1 1)) (C := RX6) (T := TX6) (N := 10) hx hb hts inlX6 hown hK hPD.1 3 rfl rfl 1 (by decide) (hts _ gw_282) (fun _ h9 => h9) rfl dX5_know_31 ?_
  refine lv_iload_n hx hb dX5_know_34 rfl (lv_at hl 2 rfl) ?_
  refine kNI (As := [.ref (a1 1), .int p2]) (rest := [.int 2, .ref (a0 1)]) C0 (kt_X9_at l G (a1 1) 16 (A1 1) p2 (by decide)) gi_U_X9_at (host := "IdleCrimes") (index := 49) (List.mem_of_getElem? (i := 24) rfl) gw_6 gw_7 (n := 2) rfl (by decide +kernel) ⟨rfl, rfl, Nat.le_of_ble_eq_true rfl, Nat.le_of_ble_eq_true rfl⟩ hPD hS [5] [0, 1, 2, 3, 4, 6, 7, 8] [0, 1, 2, 3, 4, 8, 5, 6, 7] (wN := (wX5 G h0 a0 f0 A0_4 ++ (wX6 G h1 a1 f1 A1))) rfl rfl rfl rfl rfl hl.1 (Nat.le_of_ble_eq_true rfl) dX5_know_35 (fun H locs hPD hS => ?_)
  obtain ⟨z_5, ez_5, h⟩ := lvl h
  have kc := kt_X9_put l G (a0 1) 8 (A0_4 1) 2 (f9_at 16 (A1 1) p2) (by decide)
  rw [← ez_5] at kc
  clear ez_5
  refine kNV (As := [.ref (a0 1), .int 2, .int (f9_at 16 (A1 1) p2)]) (rest := []) C0 (kc) gi_U_X9_put (host := "IdleCrimes") (index := 75) (List.mem_of_getElem? (i := 26) rfl) gw_6 gw_19 (n := 3) rfl (by decide +kernel) ⟨rfl, rfl, Nat.le_of_ble_eq_true rfl, Nat.le_of_ble_eq_true rfl⟩ hPD hS [2] [0, 1, 3, 4, 5, 6, 7, 8] [0, 1, 8, 2, 3, 4, 5, 6, 7] (wN := (wX5 G h0 a0 f0 (updA A0_4 1 z_5) ++ (wX6 G h1 a1 f1 A1))) rfl rfl rfl rfl rfl hl.1 (Nat.le_of_ble_eq_true rfl) dX5_know_38 (fun H locs hPD hS => ?_)
  obtain ⟨A0_6, eA0_6, h⟩ := lvl h
  have hPD : WD G DA (wX5 G h0 a0 f0 A0_6 ++ (wX6 G h1 a1 f1 A1)) H := by rw [eA0_6]; exact hPD
  clear eA0_6
  refine lv_aload_n hx hb dX5_know_41 rfl (lv_at hl 0 rfl) ?_
  refine va_get (D := G.1) (ci := 5) (v := .ref (a0 1)) (C := RX5) (T := TX5) (N := 4) hx hb hts inlX5 hown hK hPD.1 0 rfl rfl 1 (by decide) (hts _ gw_280) (fun _ h9 => h9) rfl dX5_know_42 ?_
  refine lv_iconst (v := 3) hx hb dX5_know_45 (by decide) ?_
  refine lv_aload_n hx hb dX5_know_46 rfl (lv_at hl 0 rfl) ?_
  refine va_get (D := G.1) (ci := 5) (v := .ref (a0 0)) (C := RX5) (T := TX5) (N := 4) hx hb hts inlX5 hown hK hPD.1 0 rfl rfl 0 (by decide) (hts _ gw_277) (fun _ h9 => h9) rfl dX5_know_47 ?_
  refine lv_iload_n hx hb dX5_know_50 rfl (lv_at hl 2 rfl) ?_
  refine kNI (As := [.ref (a0 0), .int p2]) (rest := [.int 3, .ref (a0 1)]) C0 (kt_X9_at l G (a0 0) 16 (A0_6 0) p2 (by decide)) gi_U_X9_at (host := "IdleCrimes") (index := 49) (List.mem_of_getElem? (i := 24) rfl) gw_6 gw_7 (n := 2) rfl (by decide +kernel) ⟨rfl, rfl, Nat.le_of_ble_eq_true rfl, Nat.le_of_ble_eq_true rfl⟩ hPD hS [1] [0, 2, 3, 4, 5, 6, 7, 8] [0, 8, 1, 2, 3, 4, 5, 6, 7] (wN := (wX5 G h0 a0 f0 A0_6 ++ (wX6 G h1 a1 f1 A1))) rfl rfl rfl rfl rfl hl.1 (Nat.le_of_ble_eq_true rfl) dX5_know_51 (fun H locs hPD hS => ?_)
  obtain ⟨z_7, ez_7, h⟩ := lvl h
  have kc := kt_X9_put l G (a0 1) 8 (A0_6 1) 3 (f9_at 16 (A0_6 0) p2) (by decide)
  rw [← ez_7] at kc
  clear ez_7
  refine kNV (As := [.ref (a0 1), .int 3, .int (f9_at 16 (A0_6 0) p2)]) (rest := []) C0 (kc) gi_U_X9_put (host := "IdleCrimes") (index := 75) (List.mem_of_getElem? (i := 26) rfl) gw_6 gw_19 (n := 3) rfl (by decide +kernel) ⟨rfl, rfl, Nat.le_of_ble_eq_true rfl, Nat.le_of_ble_eq_true rfl⟩ hPD hS [2] [0, 1, 3, 4, 5, 6, 7, 8] [0, 1, 8, 2, 3, 4, 5, 6, 7] (wN := (wX5 G h0 a0 f0 (updA A0_6 1 z_7) ++ (wX6 G h1 a1 f1 A1))) rfl rfl rfl rfl rfl hl.1 (Nat.le_of_ble_eq_true rfl) dX5_know_54 (fun H locs hPD hS => ?_)
  obtain ⟨A0_8, eA0_8, h⟩ := lvl h
  have hPD : WD G DA (wX5 G h0 a0 f0 A0_8 ++ (wX6 G h1 a1 f1 A1)) H := by rw [eA0_8]; exact hPD
  clear eA0_8
  refine lv_aload_n hx hb dX5_know_57 rfl (lv_at hl 0 rfl) ?_
  refine va_get (D := G.1) (ci := 5) (v := .ref (a0 1)) (C := RX5) (T := TX5) (N := 4) hx hb hts inlX5 hown hK hPD.1 0 rfl rfl 1 (by decide) (hts _ gw_280) (fun _ h9 => h9) rfl dX5_know_58 ?_
  refine lv_iconst (v := 4) hx hb dX5_know_61 (by decide) ?_
  refine lv_aload_n hx hb dX5_know_62 rfl (lv_at hl 0 rfl) ?_
  refine va_get (D := G.1) (ci := 5) (v := .ref (a0 0)) (C := RX5) (T := TX5) (N := 4) hx hb hts inlX5 hown hK hPD.1 0 rfl rfl 0 (by decide) (hts _ gw_277) (fun _ h9 => h9) rfl dX5_know_63 ?_
  refine lv_iload_n hx hb dX5_know_66 rfl (lv_at hl 3 rfl) ?_
  obtain ⟨q_9, hq_9, h⟩ := ob2 h
  refine kNI (As := [.ref (a0 0), .int p3]) (rest := [.int 4, .ref (a0 1)]) C0 (kt_X9_sumOf l G (a0 0) 16 (A0_8 0) p3 (by decide) hq_9) gi_U_X9_sumOf (host := "IdleCrimes") (index := 94) (List.mem_of_getElem? (i := 27) rfl) gw_6 gw_283 (n := 2) rfl (by decide +kernel) ⟨rfl, rfl, Nat.le_of_ble_eq_true rfl, Nat.le_of_ble_eq_true rfl⟩ hPD hS [1] [0, 2, 3, 4, 5, 6, 7, 8] [0, 8, 1, 2, 3, 4, 5, 6, 7] (wN := (wX5 G h0 a0 f0 A0_8 ++ (wX6 G h1 a1 f1 A1))) rfl rfl rfl rfl rfl hl.1 (Nat.le_of_ble_eq_true rfl) dX5_know_67 (fun H locs hPD hS => ?_)
  obtain ⟨z_10, ez_10, h⟩ := lvl h
  have kc := kt_X9_put l G (a0 1) 8 (A0_8 1) 4 q_9 (by decide)
  rw [← ez_10] at kc
  clear ez_10
  refine kNV (As := [.ref (a0 1), .int 4, .int q_9]) (rest := []) C0 (kc) gi_U_X9_put (host := "IdleCrimes") (index := 75) (List.mem_of_getElem? (i := 26) rfl) gw_6 gw_19 (n := 3) rfl (by decide +kernel) ⟨rfl, rfl, Nat.le_of_ble_eq_true rfl, Nat.le_of_ble_eq_true rfl⟩ hPD hS [2] [0, 1, 3, 4, 5, 6, 7, 8] [0, 1, 8, 2, 3, 4, 5, 6, 7] (wN := (wX5 G h0 a0 f0 (updA A0_8 1 z_10) ++ (wX6 G h1 a1 f1 A1))) rfl rfl rfl rfl rfl hl.1 (Nat.le_of_ble_eq_true rfl) dX5_know_70 (fun H locs hPD hS => ?_)
  obtain ⟨A0_11, eA0_11, h⟩ := lvl h
  have hPD : WD G DA (wX5 G h0 a0 f0 A0_11 ++ (wX6 G h1 a1 f1 A1)) H := by rw [eA0_11]; exact hPD
  clear eA0_11
  refine lv_aload_n hx hb dX5_know_73 rfl (lv_at hl 0 rfl) ?_
  refine va_get (D := G.1) (ci := 5) (v := .ref (a0 1)) (C := RX5) (T := TX5) (N := 4) hx hb hts inlX5 hown hK hPD.1 0 rfl rfl 1 (by decide) (hts _ gw_280) (fun _ h9 => h9) rfl dX5_know_74 ?_
  refine lv_iconst (v := 5) hx hb dX5_know_77 (by decide) ?_
  refine lv_aload_n hx hb dX5_know_78 rfl (lv_at hl 1 rfl) ?_
  refine va_get (D := G.1) (ci := 6) (v := .ref (a1 2)) (C := RX6) (T := TX6) (N := 10) hx hb hts inlX6 hown hK hPD.1 3 rfl rfl 2 (by decide) (hts _ gw_278) (fun _ h9 => h9) rfl dX5_know_79 ?_
  refine lv_iload_n hx hb dX5_know_82 rfl (lv_at hl 2 rfl) ?_
  refine kNI (As := [.ref (a1 2), .int p2]) (rest := [.int 5, .ref (a0 1)]) C0 (kt_X9_at l G (a1 2) 16 (A1 2) p2 (by decide)) gi_U_X9_at (host := "IdleCrimes") (index := 49) (List.mem_of_getElem? (i := 24) rfl) gw_6 gw_7 (n := 2) rfl (by decide +kernel) ⟨rfl, rfl, Nat.le_of_ble_eq_true rfl, Nat.le_of_ble_eq_true rfl⟩ hPD hS [6] [0, 1, 2, 3, 4, 5, 7, 8] [0, 1, 2, 3, 4, 5, 8, 6, 7] (wN := (wX5 G h0 a0 f0 A0_11 ++ (wX6 G h1 a1 f1 A1))) rfl rfl rfl rfl rfl hl.1 (Nat.le_of_ble_eq_true rfl) dX5_know_83 (fun H locs hPD hS => ?_)
  obtain ⟨z_12, ez_12, h⟩ := lvl h
  have kc := kt_X9_put l G (a0 1) 8 (A0_11 1) 5 (f9_at 16 (A1 2) p2) (by decide)
  rw [← ez_12] at kc
  clear ez_12
  refine kNV (As := [.ref (a0 1), .int 5, .int (f9_at 16 (A1 2) p2)]) (rest := []) C0 (kc) gi_U_X9_put (host := "IdleCrimes") (index := 75) (List.mem_of_getElem? (i := 26) rfl) gw_6 gw_19 (n := 3) rfl (by decide +kernel) ⟨rfl, rfl, Nat.le_of_ble_eq_true rfl, Nat.le_of_ble_eq_true rfl⟩ hPD hS [2] [0, 1, 3, 4, 5, 6, 7, 8] [0, 1, 8, 2, 3, 4, 5, 6, 7] (wN := (wX5 G h0 a0 f0 (updA A0_11 1 z_12) ++ (wX6 G h1 a1 f1 A1))) rfl rfl rfl rfl rfl hl.1 (Nat.le_of_ble_eq_true rfl) dX5_know_86 (fun H locs hPD hS => ?_)
  obtain ⟨A0_13, eA0_13, h⟩ := lvl h
  have hPD : WD G DA (wX5 G h0 a0 f0 A0_13 ++ (wX6 G h1 a1 f1 A1)) H := by rw [eA0_13]; exact hPD
  clear eA0_13
  refine lv_aload_n hx hb dX5_know_89 rfl (lv_at hl 0 rfl) ?_
  refine va_get (D := G.1) (ci := 5) (v := .ref (a0 1)) (C := RX5) (T := TX5) (N := 4) hx hb hts inlX5 hown hK hPD.1 0 rfl rfl 1 (by decide) (hts _ gw_280) (fun _ h9 => h9) rfl dX5_know_90 ?_
  refine lv_bipush (v := 6) hx hb dX5_know_93 (by decide) ?_
  refine lv_aload_n hx hb dX5_know_95 rfl (lv_at hl 1 rfl) ?_
  refine va_get (D := G.1) (ci := 6) (v := .int (f1 8)) (C := RX6) (T := TX6) (N := 10) hx hb hts inlX6 hown hK hPD.1 3 rfl rfl 8 (by decide) (hts _ gw_269) (fun _ h9 => h9) rfl dX5_know_96 ?_
  refine lv_bipush (v := 24) hx hb dX5_know_99 (by decide) ?_
  refine lv_irem hx hb dX5_know_101 (by decide) ?_
  obtain ⟨z_14, ez_14, h⟩ := lvl h
  have kc := kt_X9_put l G (a0 1) 8 (A0_13 1) 6 (irm (f1 8) 24) (by decide)
  rw [← ez_14] at kc
  clear ez_14
  refine kNV (As := [.ref (a0 1), .int 6, .int (irm (f1 8) 24)]) (rest := []) C0 (kc) gi_U_X9_put (host := "IdleCrimes") (index := 75) (List.mem_of_getElem? (i := 26) rfl) gw_6 gw_19 (n := 3) rfl (by decide +kernel) ⟨rfl, rfl, Nat.le_of_ble_eq_true rfl, Nat.le_of_ble_eq_true rfl⟩ hPD hS [2] [0, 1, 3, 4, 5, 6, 7, 8] [0, 1, 8, 2, 3, 4, 5, 6, 7] (wN := (wX5 G h0 a0 f0 (updA A0_13 1 z_14) ++ (wX6 G h1 a1 f1 A1))) rfl rfl rfl rfl rfl hl.1 (Nat.le_of_ble_eq_true rfl) dX5_know_102 (fun H locs hPD hS => ?_)
  obtain ⟨A0_15, eA0_15, h⟩ := lvl h
  have hPD : WD G DA (wX5 G h0 a0 f0 A0_15 ++ (wX6 G h1 a1 f1 A1)) H := by rw [eA0_15]; exact hPD
  clear eA0_15
  refine lv_aload_n hx hb dX5_know_105 rfl (lv_at hl 0 rfl) ?_
  refine va_get (D := G.1) (ci := 5) (v := .ref (a0 1)) (C := RX5) (T := TX5) (N := 4) hx hb hts inlX5 hown hK hPD.1 0 rfl rfl 1 (by decide) (hts _ gw_280) (fun _ h9 => h9) rfl dX5_know_106 ?_
  refine lv_bipush (v := 7) hx hb dX5_know_109 (by decide) ?_
  refine lv_aload_n hx hb dX5_know_111 rfl (lv_at hl 1 rfl) ?_
  refine va_get (D := G.1) (ci := 6) (v := .int (f1 7)) (C := RX6) (T := TX6) (N := 10) hx hb hts inlX6 hown hK hPD.1 3 rfl rfl 7 (by decide) (hts _ gw_285) (fun _ h9 => h9) rfl dX5_know_112 ?_
  obtain ⟨z_16, ez_16, h⟩ := lvl h
  have kc := kt_X9_put l G (a0 1) 8 (A0_15 1) 7 (f1 7) (by decide)
  rw [← ez_16] at kc
  clear ez_16
  refine kNV (As := [.ref (a0 1), .int 7, .int (f1 7)]) (rest := []) C0 (kc) gi_U_X9_put (host := "IdleCrimes") (index := 75) (List.mem_of_getElem? (i := 26) rfl) gw_6 gw_19 (n := 3) rfl (by decide +kernel) ⟨rfl, rfl, Nat.le_of_ble_eq_true rfl, Nat.le_of_ble_eq_true rfl⟩ hPD hS [2] [0, 1, 3, 4, 5, 6, 7, 8] [0, 1, 8, 2, 3, 4, 5, 6, 7] (wN := (wX5 G h0 a0 f0 (updA A0_15 1 z_16) ++ (wX6 G h1 a1 f1 A1))) rfl rfl rfl rfl rfl hl.1 (Nat.le_of_ble_eq_true rfl) dX5_know_115 (fun H locs hPD hS => ?_)
  obtain ⟨A0_17, eA0_17, h⟩ := lvl h
  have hPD : WD G DA (wX5 G h0 a0 f0 A0_17 ++ (wX6 G h1 a1 f1 A1)) H := by rw [eA0_17]; exact hPD
  clear eA0_17
  obtain rfl := Option.some.inj h
  exact eV C0 hPD.1 hPD.2 hS dX5_know_118
abbrev rmX6_draw : Room := { frames := 0, cells := 0, slots := 0, locals := 0 }
set_option maxRecDepth 100000 in
set_option maxHeartbeats 4000000 in
theorem kt_X6_draw (l : Launch) (G : Gp) (h0 : Nat) (a0 : Nat → Nat) (f0 : Nat → Int32) (A0 : Nat → Nat → Int32) : ∀ {r : Int32 × (Nat → Int32)}, f6_draw f0 A0 = some r → CtrI l yX6_draw cX6_draw 1 (some .int) rmX6_draw G [.ref h0] (wX6 G h0 a0 f0 A0) r.1 (wX6 G h0 a0 r.2 A0) := by
  intro res h
  refine ctrI_of (cc := cX6_draw) (maxL := 1) (ret := (some .int)) (by decide +kernel) rfl (Nat.le_of_ble_eq_true rfl) (fun p e s m below meth c DA C0 hP hD ls hl => ?_)
  have hPD : WD G DA (wX6 G h0 a0 f0 A0) s.heap := ⟨hP, hD⟩
  have hS : va_S DA s.heap s.heap [] := va_S.rf
  have hl : lv_has ls 1 [(0, .ref h0)] := hl
  obtain ⟨hx, hb, hml, hown, hts⟩ := C0.1
  have hK := C0.2.2.2.1
  unfold f6_draw at h
  refine lv_aload_n hx hb dX6_draw_0 rfl (lv_at hl 0 rfl) ?_
  refine lv_sipush (v := 25173) hx hb dX6_draw_1 (by decide) ?_
  refine lv_aload_n hx hb dX6_draw_4 rfl (lv_at hl 0 rfl) ?_
  refine va_get (D := G.1) (ci := 6) (v := .int (f0 9)) (C := RX6) (T := TX6) (N := 10) hx hb hts inlX6 hown hK hPD.1 0 rfl rfl 9 (by decide) (hts _ gw_286) (fun _ h9 => h9) rfl dX6_draw_5 ?_
  refine lv_imul hx hb dX6_draw_8 ?_
  refine lv_sipush (v := 13849) hx hb dX6_draw_9 (by decide) ?_
  refine lv_iadd hx hb dX6_draw_12 ?_
  refine lv_ldc (v := 65535) hx hb hown (hts _ gw_287) dX6_draw_13 ?_
  refine lv_iand hx hb dX6_draw_15 ?_
  refine va_put (D := G.1) (ci := 6) (v := .int (((25173 * (f0 9)) + 13849) &&& 65535)) (ty := .int) (C := RX6) (T := TX6) (N := 10) hx hb hts inlX6 tyX6 tyX6_ok nmX6 hown hK hPD.1 hPD.2 hS 0 rfl rfl 9 (by decide) (hts _ gw_286) (fun _ h9 => h9) rfl (by decide +kernel) rfl rfl (Nat.le_of_ble_eq_true rfl) dX6_draw_16 (fun H locs hP hD hS => ?_)
  obtain ⟨f0_1, ef0_1, h⟩ := lvl h
  have hPD : WD G DA (wX6 G h0 a0 f0_1 A0) H := by rw [ef0_1]; exact ⟨hP, hD⟩
  clear ef0_1 hP hD
  refine lv_aload_n hx hb dX6_draw_19 rfl (lv_at hl 0 rfl) ?_
  refine va_get (D := G.1) (ci := 6) (v := .int (f0_1 9)) (C := RX6) (T := TX6) (N := 10) hx hb hts inlX6 hown hK hPD.1 0 rfl rfl 9 (by decide) (hts _ gw_286) (fun _ h9 => h9) rfl dX6_draw_20 ?_
  refine lv_bipush (v := 10) hx hb dX6_draw_23 (by decide) ?_
  refine lv_irem hx hb dX6_draw_25 (by decide) ?_
  obtain rfl := Option.some.inj h
  exact eI C0 hPD.1 hPD.2 hS rfl dX6_draw_26
abbrev rmX5_pay : Room := { frames := 3, cells := 0, slots := 0, locals := 64 }
set_option maxRecDepth 100000 in
set_option maxHeartbeats 4000000 in
theorem ww_f5_pay_b3  (C0 : Cx cX5_pay 5 none RX5 p s m args meth c G DA) {h0 : Nat} {a0 : Nat → Nat} {h1 : Nat} {a1 : Nat → Nat} {A0 : Nat → Nat → Int32} {f1 : Nat → Int32} {p2 : Int32} {p3 : Int32}  {k3 : (Nat → Int32) → (Nat → Nat → Int32) → Int32 → Option ((Nat → Int32) × (Nat → Nat → Int32))} {res : (Nat → Int32) × (Nat → Nat → Int32)}  (hk3 : ∀ (f0 : Nat → Int32) (A1 : Nat → Nat → Int32) (l4 : Int32), k3 f0 A1 l4 = some res → ∀ (H : Heap) (locs : List Loc) (ls : Array Slot), WD G DA (wX5 G h0 a0 f0 A0 ++ (wX6 G h1 a1 f1 A1)) H → va_S DA s.heap H locs → lv_has ls 5 [(0, .ref h0), (1, .ref h1), (2, .int p2), (3, .int p3), (4, .int l4)] → W p l e rmX5_pay s m args below meth c H locs 0 0 (MQ below (QV G DA (wX5 G h0 a0 res.1 A0 ++ (wX6 G h1 a1 f1 res.2))) args s 0 0 DA) (F0 m 3 ls [])) : ∀ (f0 : Nat → Int32) (A1 : Nat → Nat → Int32) (l4 : Int32), f5_pay_b3 A0 f1 p2 p3  k3 f0 A1 l4 = some res → ∀ (H : Heap) (locs : List Loc) (ls : Array Slot), WD G DA (wX5 G h0 a0 f0 A0 ++ (wX6 G h1 a1 f1 A1)) H → va_S DA s.heap H locs → lv_has ls 5 [(0, .ref h0), (1, .ref h1), (2, .int p2), (3, .int p3), (4, .int l4)] → W p l e rmX5_pay s m args below meth c H locs 0 0 (MQ below (QV G DA (wX5 G h0 a0 res.1 A0 ++ (wX6 G h1 a1 f1 res.2))) args s 0 0 DA) (F0 m 3 ls []) := by
  obtain ⟨hx, hb, hml, hown, hts⟩ := C0.1
  have hK := C0.2.2.2.1
  intro f0 A1 l4 h _ _ _ hPD hS hl
  unfold f5_pay_b3 at h
  refine lv_iload hx hb dX5_pay_3 (lv_at hl 4 rfl) ?_
  refine lv_bipush (v := 8) hx hb dX5_pay_5 (by decide) ?_
  refine lv_icmp_ge (tgt := 73) hx hb dX5_pay_7 (by decide) (fun cc1 => ?_) (fun cc1 => ?_)
  · have h := (if_pos cc1).symm.trans h
    obtain rfl := Option.some.inj h
    exact eV C0 hPD.1 hPD.2 hS dX5_pay_73
  · have h := (if_neg cc1).symm.trans h
    refine lv_aload_n hx hb dX5_pay_10 rfl (lv_at hl 1 rfl) ?_
    refine lv_iload hx hb dX5_pay_11 (lv_at hl 4 rfl) ?_
    refine kVI (As := [.int l4]) (rest := []) C0 (kt_X6_isTold l G h1 a1 f1 A1 l4) gi_V_X5_61_X6_isTold (n := 1) rfl (by decide +kernel) rfl ⟨rfl, rfl, Nat.le_of_ble_eq_true rfl, Nat.le_of_ble_eq_true rfl⟩ hPD hS 3 6 rfl rfl rfl [3, 4, 5, 6, 7, 8] [0, 1, 2] [0, 1, 2, 3, 4, 5, 6, 7, 8] (wN := (wX5 G h0 a0 f0 A0 ++ (wX6 G h1 a1 f1 A1))) rfl rfl rfl rfl rfl hl.1 (Nat.le_of_ble_eq_true rfl) dX5_pay_13 (fun H locs hPD hS => ?_)
    refine lv_if_eq (tgt := 67) hx hb dX5_pay_16 (by decide) (fun cc1 => ?_) (fun cc1 => ?_)
    · have h := (if_pos cc1).symm.trans h
      refine lv_iinc (v := l4 + 1) (lv' := [(4, .int (l4 + 1)), (0, .ref h0), (1, .ref h1), (2, .int p2), (3, .int p3)]) hx hb dX5_pay_67 hl (k := 4) rfl rfl (by decide) rfl (fun ls hl => ?_)
      refine lv_goto (tgt := 3) hx hb dX5_pay_70 (by decide) ?_
      exact hk3 f0 A1 (l4 + 1) h _ _ _ hPD hS (lv_sub hl [1, 2, 3, 4, 0] rfl)
    · have h := (if_neg cc1).symm.trans h
      refine lv_aload_n hx hb dX5_pay_19 rfl (lv_at hl 1 rfl) ?_
      refine va_get (D := G.1) (ci := 6) (v := .ref (a1 3)) (C := RX6) (T := TX6) (N := 10) hx hb hts inlX6 hown hK hPD.1 3 rfl rfl 3 (by decide) (hts _ gw_276) (fun _ h9 => h9) rfl dX5_pay_20 ?_
      refine lv_iload hx hb dX5_pay_23 (lv_at hl 4 rfl) ?_
      refine kNI (As := [.ref (a1 3), .int l4]) (rest := []) C0 (kt_X9_at l G (a1 3) 8 (A1 3) l4 (by decide)) gi_U_X9_at (host := "IdleCrimes") (index := 49) (List.mem_of_getElem? (i := 24) rfl) gw_6 gw_7 (n := 2) rfl (by decide +kernel) ⟨rfl, rfl, Nat.le_of_ble_eq_true rfl, Nat.le_of_ble_eq_true rfl⟩ hPD hS [7] [0, 1, 2, 3, 4, 5, 6, 8] [0, 1, 2, 3, 4, 5, 6, 8, 7] (wN := (wX5 G h0 a0 f0 A0 ++ (wX6 G h1 a1 f1 A1))) rfl rfl rfl rfl rfl hl.1 (Nat.le_of_ble_eq_true rfl) dX5_pay_25 (fun H locs hPD hS => ?_)
      refine lv_iload_n hx hb dX5_pay_28 rfl (lv_at hl 2 rfl) ?_
      refine lv_icmp_ne (tgt := 67) hx hb dX5_pay_29 (by decide) (fun cc1 => ?_) (fun cc1 => ?_)
      · have h := (if_neg cc1).symm.trans h
        refine lv_iinc (v := l4 + 1) (lv' := [(4, .int (l4 + 1)), (0, .ref h0), (1, .ref h1), (2, .int p2), (3, .int p3)]) hx hb dX5_pay_67 hl (k := 4) rfl rfl (by decide) rfl (fun ls hl => ?_)
        refine lv_goto (tgt := 3) hx hb dX5_pay_70 (by decide) ?_
        exact hk3 f0 A1 (l4 + 1) h _ _ _ hPD hS (lv_sub hl [1, 2, 3, 4, 0] rfl)
      · have h := (if_pos cc1).symm.trans h
        refine lv_aload_n hx hb dX5_pay_32 rfl (lv_at hl 1 rfl) ?_
        refine va_get (D := G.1) (ci := 6) (v := .ref (a1 4)) (C := RX6) (T := TX6) (N := 10) hx hb hts inlX6 hown hK hPD.1 3 rfl rfl 4 (by decide) (hts _ gw_288) (fun _ h9 => h9) rfl dX5_pay_33 ?_
        refine lv_iload hx hb dX5_pay_36 (lv_at hl 4 rfl) ?_
        refine lv_aload_n hx hb dX5_pay_38 rfl (lv_at hl 1 rfl) ?_
        refine va_get (D := G.1) (ci := 6) (v := .ref (a1 4)) (C := RX6) (T := TX6) (N := 10) hx hb hts inlX6 hown hK hPD.1 3 rfl rfl 4 (by decide) (hts _ gw_288) (fun _ h9 => h9) rfl dX5_pay_39 ?_
        refine lv_iload hx hb dX5_pay_42 (lv_at hl 4 rfl) ?_
        refine kNI (As := [.ref (a1 4), .int l4]) (rest := [.int l4, .ref (a1 4)]) C0 (kt_X9_at l G (a1 4) 8 (A1 4) l4 (by decide)) gi_U_X9_at (host := "IdleCrimes") (index := 49) (List.mem_of_getElem? (i := 24) rfl) gw_6 gw_7 (n := 2) rfl (by decide +kernel) ⟨rfl, rfl, Nat.le_of_ble_eq_true rfl, Nat.le_of_ble_eq_true rfl⟩ hPD hS [8] [0, 1, 2, 3, 4, 5, 6, 7] [0, 1, 2, 3, 4, 5, 6, 7, 8] (wN := (wX5 G h0 a0 f0 A0 ++ (wX6 G h1 a1 f1 A1))) rfl rfl rfl rfl rfl hl.1 (Nat.le_of_ble_eq_true rfl) dX5_pay_44 (fun H locs hPD hS => ?_)
        refine lv_iload_n hx hb dX5_pay_47 rfl (lv_at hl 3 rfl) ?_
        refine lv_iadd hx hb dX5_pay_48 ?_
        refine lv_ldc (v := 999999) hx hb hown (hts _ gw_289) dX5_pay_49 ?_
        refine va_mmin hx hb (hml.trans hl.1.symm) hown (hts _ gw_279) (hts _ gw_208) (hts _ gw_209) (hts _ gw_210) (Nat.le_of_ble_eq_true rfl) (Nat.le_of_ble_eq_true rfl) (Nat.zero_le _) (Nat.zero_le _) dX5_pay_51 ?_
        obtain ⟨z_1, ez_1, h⟩ := lvl h
        have kc := kt_X9_put l G (a1 4) 8 (A1 4) l4 (imin ((f9_at 8 (A1 4) l4) + p3) 999999) (by decide)
        rw [← ez_1] at kc
        clear ez_1
        refine kNV (As := [.ref (a1 4), .int l4, .int (imin ((f9_at 8 (A1 4) l4) + p3) 999999)]) (rest := []) C0 (kc) gi_U_X9_put (host := "IdleCrimes") (index := 75) (List.mem_of_getElem? (i := 26) rfl) gw_6 gw_19 (n := 3) rfl (by decide +kernel) ⟨rfl, rfl, Nat.le_of_ble_eq_true rfl, Nat.le_of_ble_eq_true rfl⟩ hPD hS [8] [0, 1, 2, 3, 4, 5, 6, 7] [0, 1, 2, 3, 4, 5, 6, 7, 8] (wN := (wX5 G h0 a0 f0 A0 ++ (wX6 G h1 a1 f1 (updA A1 4 z_1)))) rfl rfl rfl rfl rfl hl.1 (Nat.le_of_ble_eq_true rfl) dX5_pay_54 (fun H locs hPD hS => ?_)
        obtain ⟨A1_2, eA1_2, h⟩ := lvl h
        have hPD : WD G DA (wX5 G h0 a0 f0 A0 ++ (wX6 G h1 a1 f1 A1_2)) H := by rw [eA1_2]; exact hPD
        clear eA1_2
        refine lv_aload_n hx hb dX5_pay_57 rfl (lv_at hl 0 rfl) ?_
        refine lv_dup hx hb dX5_pay_58 rfl ?_
        refine va_get (D := G.1) (ci := 5) (v := .int (f0 3)) (C := RX5) (T := TX5) (N := 4) hx hb hts inlX5 hown hK hPD.1 0 rfl rfl 3 (by decide) (hts _ gw_290) (fun _ h9 => h9) rfl dX5_pay_59 ?_
        refine lv_iload_n hx hb dX5_pay_62 rfl (lv_at hl 3 rfl) ?_
        refine lv_iadd hx hb dX5_pay_63 ?_
        refine va_put (D := G.1) (ci := 5) (v := .int ((f0 3) + p3)) (ty := .int) (C := RX5) (T := TX5) (N := 4) hx hb hts inlX5 tyX5 tyX5_ok nmX5 hown hK hPD.1 hPD.2 hS 0 rfl rfl 3 (by decide) (hts _ gw_290) (fun _ h9 => h9) rfl (by decide +kernel) rfl rfl (Nat.le_of_ble_eq_true rfl) dX5_pay_64 (fun H locs hP hD hS => ?_)
        obtain ⟨f0_3, ef0_3, h⟩ := lvl h
        have hPD : WD G DA (wX5 G h0 a0 f0_3 A0 ++ (wX6 G h1 a1 f1 A1_2)) H := by rw [ef0_3]; exact ⟨hP, hD⟩
        clear ef0_3 hP hD
        refine lv_iinc (v := l4 + 1) (lv' := [(4, .int (l4 + 1)), (0, .ref h0), (1, .ref h1), (2, .int p2), (3, .int p3)]) hx hb dX5_pay_67 hl (k := 4) rfl rfl (by decide) rfl (fun ls hl => ?_)
        refine lv_goto (tgt := 3) hx hb dX5_pay_70 (by decide) ?_
        exact hk3 f0_3 A1_2 (l4 + 1) h _ _ _ hPD hS (lv_sub hl [1, 2, 3, 4, 0] rfl)
set_option maxRecDepth 100000 in
set_option maxHeartbeats 4000000 in
theorem ww_f5_pay_l3  (C0 : Cx cX5_pay 5 none RX5 p s m args meth c G DA) {h0 : Nat} {a0 : Nat → Nat} {h1 : Nat} {a1 : Nat → Nat} {A0 : Nat → Nat → Int32} {f1 : Nat → Int32} {p2 : Int32} {p3 : Int32}   {res : (Nat → Int32) × (Nat → Nat → Int32)}  : ∀ (n : Nat) (f0 : Nat → Int32) (A1 : Nat → Nat → Int32) (l4 : Int32), f5_pay_l3 A0 f1 p2 p3  n f0 A1 l4 = some res → ∀ (H : Heap) (locs : List Loc) (ls : Array Slot), WD G DA (wX5 G h0 a0 f0 A0 ++ (wX6 G h1 a1 f1 A1)) H → va_S DA s.heap H locs → lv_has ls 5 [(0, .ref h0), (1, .ref h1), (2, .int p2), (3, .int p3), (4, .int l4)] → W p l e rmX5_pay s m args below meth c H locs 0 0 (MQ below (QV G DA (wX5 G h0 a0 res.1 A0 ++ (wX6 G h1 a1 f1 res.2))) args s 0 0 DA) (F0 m 3 ls []) := by
  intro n
  induction n with
  | zero => intro f0 A1 l4 h; cases h
  | succ n ih => intro f0 A1 l4 h; exact ww_f5_pay_b3 C0  ih f0 A1 l4 h
set_option maxRecDepth 100000 in
set_option maxHeartbeats 4000000 in
theorem kt_X5_pay (l : Launch) (G : Gp) (h0 : Nat) (a0 : Nat → Nat) (h1 : Nat) (a1 : Nat → Nat) (f0 : Nat → Int32) (A0 : Nat → Nat → Int32) (f1 : Nat → Int32) (A1 : Nat → Nat → Int32) (p2 : Int32) (p3 : Int32) : ∀ {r : (Nat → Int32) × (Nat → Nat → Int32)}, f5_pay f0 A0 f1 A1 p2 p3 = some r → CtrV l yX5_pay cX5_pay 5 none rmX5_pay G [.ref h0, .ref h1, .int p2, .int p3] (wX5 G h0 a0 f0 A0 ++ (wX6 G h1 a1 f1 A1)) (wX5 G h0 a0 r.1 A0 ++ (wX6 G h1 a1 f1 r.2)) := by
  intro res h
  refine ctrV_of (cc := cX5_pay) (maxL := 5) (ret := none) (by decide +kernel) rfl (Nat.le_of_ble_eq_true rfl) (fun p e s m below meth c DA C0 hP hD ls hl => ?_)
  have hPD : WD G DA (wX5 G h0 a0 f0 A0 ++ (wX6 G h1 a1 f1 A1)) s.heap := ⟨hP, hD⟩
  have hS : va_S DA s.heap s.heap [] := va_S.rf
  have hl : lv_has ls 5 [(0, .ref h0), (1, .ref h1), (2, .int p2), (3, .int p3)] := hl
  obtain ⟨hx, hb, hml, hown, hts⟩ := C0.1
  have hK := C0.2.2.2.1
  unfold f5_pay at h
  refine lv_iconst (v := 0) hx hb dX5_pay_0 (by decide) ?_
  refine lv_istore (lv' := [(4, .int 0), (0, .ref h0), (1, .ref h1), (2, .int p2), (3, .int p3)]) hx hb dX5_pay_1 hl (by decide) rfl (fun ls hl => ?_)
  exact ww_f5_pay_l3 C0 NF f0 A1 0 h _ _ _ hPD hS (lv_sub hl [1, 2, 3, 4, 0] rfl)
abbrev rmX5_tempt : Room := { frames := 4, cells := 0, slots := 0, locals := 88 }
set_option maxRecDepth 100000 in
set_option maxHeartbeats 4000000 in
theorem ww_f5_tempt_b40  (C0 : Cx cX5_tempt 6 none RX5 p s m args meth c G DA) {h0 : Nat} {a0 : Nat → Nat} {h1 : Nat} {a1 : Nat → Nat} {h2 : Nat} {a2 : Nat → Nat} {A0 : Nat → Nat → Int32} {p3 : Int32}   {res : (Nat → Int32) × (Nat → Nat → Int32) × (Nat → Int32) × (Nat → Nat → Int32) × (Nat → Int32)}  : ∀ (f0 : Nat → Int32) (A1 : Nat → Nat → Int32) (f1 : Nat → Int32) (A2 : Nat → Nat → Int32) (f2 : Nat → Int32) (s0 : Int32), f5_tempt_b40 A0 p3  f0 A1 f1 A2 f2 s0 = some res → ∀ (H : Heap) (locs : List Loc) (ls : Array Slot), WD G DA (wX5 G h0 a0 f0 A0 ++ (wX6 G h1 a1 f1 A1 ++ (wX2 G h2 a2 f2 A2))) H → va_S DA s.heap H locs → lv_has ls 6 [(0, .ref h0), (1, .ref h1), (2, .ref h2), (3, .int p3)] → W p l e rmX5_tempt s m args below meth c H locs 0 0 (MQ below (QV G DA (wX5 G h0 a0 res.1 A0 ++ (wX6 G h1 a1 res.2.2.1 res.2.1 ++ (wX2 G h2 a2 res.2.2.2.2 res.2.2.2.1)))) args s 0 0 DA) (F0 m 40 ls [.int s0]) := by
  obtain ⟨hx, hb, hml, hown, hts⟩ := C0.1
  have hK := C0.2.2.2.1
  intro f0 A1 f1 A2 f2 s0 h _ _ _ hPD hS hl
  unfold f5_tempt_b40 at h
  refine lv_istore (lv' := [(5, .int s0), (0, .ref h0), (1, .ref h1), (2, .ref h2), (3, .int p3)]) hx hb dX5_tempt_40 hl (by decide) rfl (fun ls hl => ?_)
  refine lv_aload_n hx hb dX5_tempt_42 rfl (lv_at hl 1 rfl) ?_
  refine va_get (D := G.1) (ci := 5) (v := .ref (a0 0)) (C := RX5) (T := TX5) (N := 4) hx hb hts inlX5 hown hK hPD.1 0 rfl rfl 0 (by decide) (hts _ gw_277) (fun _ h9 => h9) rfl dX5_tempt_43 ?_
  refine lv_iload_n hx hb dX5_tempt_46 rfl (lv_at hl 4 rfl) ?_
  refine kNI (As := [.ref (a0 0), .int p3]) (rest := []) C0 (kt_X9_at l G (a0 0) 16 (A0 0) p3 (by decide)) gi_U_X9_at (host := "IdleCrimes") (index := 49) (List.mem_of_getElem? (i := 24) rfl) gw_6 gw_7 (n := 2) rfl (by decide +kernel) ⟨rfl, rfl, Nat.le_of_ble_eq_true rfl, Nat.le_of_ble_eq_true rfl⟩ hPD hS [1] [0, 2, 3, 4, 5, 6, 7, 8, 9, 10, 11, 12, 13, 14, 15, 16] [0, 16, 1, 2, 3, 4, 5, 6, 7, 8, 9, 10, 11, 12, 13, 14, 15] (wN := (wX5 G h0 a0 f0 A0 ++ (wX6 G h1 a1 f1 A1 ++ (wX2 G h2 a2 f2 A2)))) rfl rfl rfl rfl rfl hl.1 (Nat.le_of_ble_eq_true rfl) dX5_tempt_47 (fun H locs hPD hS => ?_)
  refine lv_if_le (tgt := 74) hx hb dX5_tempt_50 (by decide) (fun cc1 => ?_) (fun cc1 => ?_)
  · have h := (if_pos cc1).symm.trans h
    refine lv_iload hx hb dX5_tempt_74 (lv_at hl 0 rfl) ?_
    refine lv_if_eq (tgt := 127) hx hb dX5_tempt_76 (by decide) (fun cc1 => ?_) (fun cc1 => ?_)
    · have h := (if_pos cc1).symm.trans h
      obtain rfl := Option.some.inj h
      exact eV C0 hPD.1 hPD.2 hS dX5_tempt_127
    · have h := (if_neg cc1).symm.trans h
      refine lv_aload_n hx hb dX5_tempt_79 rfl (lv_at hl 1 rfl) ?_
      refine lv_dup hx hb dX5_tempt_80 rfl ?_
      refine va_get (D := G.1) (ci := 5) (v := .int (f0 2)) (C := RX5) (T := TX5) (N := 4) hx hb hts inlX5 hown hK hPD.1 0 rfl rfl 2 (by decide) (hts _ gw_303) (fun _ h9 => h9) rfl dX5_tempt_81 ?_
      refine lv_iconst (v := 1) hx hb dX5_tempt_84 (by decide) ?_
      refine lv_iadd hx hb dX5_tempt_85 ?_
      refine va_put (D := G.1) (ci := 5) (v := .int ((f0 2) + 1)) (ty := .int) (C := RX5) (T := TX5) (N := 4) hx hb hts inlX5 tyX5 tyX5_ok nmX5 hown hK hPD.1 hPD.2 hS 0 rfl rfl 2 (by decide) (hts _ gw_303) (fun _ h9 => h9) rfl (by decide +kernel) rfl rfl (Nat.le_of_ble_eq_true rfl) dX5_tempt_86 (fun H locs hP hD hS => ?_)
      obtain ⟨f0_4, ef0_4, h⟩ := lvl h
      have hPD : WD G DA (wX5 G h0 a0 f0_4 A0 ++ (wX6 G h1 a1 f1 A1 ++ (wX2 G h2 a2 f2 A2))) H := by rw [ef0_4]; exact ⟨hP, hD⟩
      clear ef0_4 hP hD
      refine lv_aload_n hx hb dX5_tempt_89 rfl (lv_at hl 2 rfl) ?_
      refine lv_aload_n hx hb dX5_tempt_90 rfl (lv_at hl 2 rfl) ?_
      refine va_get (D := G.1) (ci := 6) (v := .int (f1 7)) (C := RX6) (T := TX6) (N := 10) hx hb hts inlX6 hown hK hPD.1 3 rfl rfl 7 (by decide) (hts _ gw_285) (fun _ h9 => h9) rfl dX5_tempt_91 ?_
      refine lv_iconst (v := 1) hx hb dX5_tempt_94 (by decide) ?_
      refine lv_iadd hx hb dX5_tempt_95 ?_
      refine lv_sipush (v := 9999) hx hb dX5_tempt_96 (by decide) ?_
      refine va_mmin hx hb (hml.trans hl.1.symm) hown (hts _ gw_279) (hts _ gw_208) (hts _ gw_209) (hts _ gw_210) (Nat.le_of_ble_eq_true rfl) (Nat.le_of_ble_eq_true rfl) (Nat.zero_le _) (Nat.zero_le _) dX5_tempt_99 ?_
      refine va_put (D := G.1) (ci := 6) (v := .int (imin ((f1 7) + 1) 9999)) (ty := .int) (C := RX6) (T := TX6) (N := 10) hx hb hts inlX6 tyX6 tyX6_ok nmX6 hown hK hPD.1 hPD.2 hS 3 rfl rfl 7 (by decide) (hts _ gw_285) (fun _ h9 => h9) rfl (by decide +kernel) rfl rfl (Nat.le_of_ble_eq_true rfl) dX5_tempt_102 (fun H locs hP hD hS => ?_)
      obtain ⟨f1_5, ef1_5, h⟩ := lvl h
      have hPD : WD G DA (wX5 G h0 a0 f0_4 A0 ++ (wX6 G h1 a1 f1_5 A1 ++ (wX2 G h2 a2 f2 A2))) H := by rw [ef1_5]; exact ⟨hP, hD⟩
      clear ef1_5 hP hD
      refine lv_aload_n hx hb dX5_tempt_105 rfl (lv_at hl 2 rfl) ?_
      refine lv_aload_n hx hb dX5_tempt_106 rfl (lv_at hl 2 rfl) ?_
      refine va_get (D := G.1) (ci := 6) (v := .int (f1_5 6)) (C := RX6) (T := TX6) (N := 10) hx hb hts inlX6 hown hK hPD.1 3 rfl rfl 6 (by decide) (hts _ gw_304) (fun _ h9 => h9) rfl dX5_tempt_107 ?_
      refine lv_aload_n hx hb dX5_tempt_110 rfl (lv_at hl 2 rfl) ?_
      refine va_get (D := G.1) (ci := 6) (v := .ref (a1 1)) (C := RX6) (T := TX6) (N := 10) hx hb hts inlX6 hown hK hPD.1 3 rfl rfl 1 (by decide) (hts _ gw_282) (fun _ h9 => h9) rfl dX5_tempt_111 ?_
      refine lv_iload_n hx hb dX5_tempt_114 rfl (lv_at hl 4 rfl) ?_
      refine kNI (As := [.ref (a1 1), .int p3]) (rest := [.int (f1_5 6), .ref h1]) C0 (kt_X9_at l G (a1 1) 16 (A1 1) p3 (by decide)) gi_U_X9_at (host := "IdleCrimes") (index := 49) (List.mem_of_getElem? (i := 24) rfl) gw_6 gw_7 (n := 2) rfl (by decide +kernel) ⟨rfl, rfl, Nat.le_of_ble_eq_true rfl, Nat.le_of_ble_eq_true rfl⟩ hPD hS [5] [0, 1, 2, 3, 4, 6, 7, 8, 9, 10, 11, 12, 13, 14, 15, 16] [0, 1, 2, 3, 4, 16, 5, 6, 7, 8, 9, 10, 11, 12, 13, 14, 15] (wN := (wX5 G h0 a0 f0_4 A0 ++ (wX6 G h1 a1 f1_5 A1 ++ (wX2 G h2 a2 f2 A2)))) rfl rfl rfl rfl rfl hl.1 (Nat.le_of_ble_eq_true rfl) dX5_tempt_115 (fun H locs hPD hS => ?_)
      refine lv_iadd hx hb dX5_tempt_118 ?_
      refine lv_ldc (v := 999999) hx hb hown (hts _ gw_289) dX5_tempt_119 ?_
      refine va_mmin hx hb (hml.trans hl.1.symm) hown (hts _ gw_279) (hts _ gw_208) (hts _ gw_209) (hts _ gw_210) (Nat.le_of_ble_eq_true rfl) (Nat.le_of_ble_eq_true rfl) (Nat.zero_le _) (Nat.zero_le _) dX5_tempt_121 ?_
      refine va_put (D := G.1) (ci := 6) (v := .int (imin ((f1_5 6) + (f9_at 16 (A1 1) p3)) 999999)) (ty := .int) (C := RX6) (T := TX6) (N := 10) hx hb hts inlX6 tyX6 tyX6_ok nmX6 hown hK hPD.1 hPD.2 hS 3 rfl rfl 6 (by decide) (hts _ gw_304) (fun _ h9 => h9) rfl (by decide +kernel) rfl rfl (Nat.le_of_ble_eq_true rfl) dX5_tempt_124 (fun H locs hP hD hS => ?_)
      obtain ⟨f1_6, ef1_6, h⟩ := lvl h
      have hPD : WD G DA (wX5 G h0 a0 f0_4 A0 ++ (wX6 G h1 a1 f1_6 A1 ++ (wX2 G h2 a2 f2 A2))) H := by rw [ef1_6]; exact ⟨hP, hD⟩
      clear ef1_6 hP hD
      obtain rfl := Option.some.inj h
      exact eV C0 hPD.1 hPD.2 hS dX5_tempt_127
  · have h := (if_neg cc1).symm.trans h
    refine lv_aload_n hx hb dX5_tempt_53 rfl (lv_at hl 1 rfl) ?_
    refine lv_aload_n hx hb dX5_tempt_54 rfl (lv_at hl 2 rfl) ?_
    refine lv_iload_n hx hb dX5_tempt_55 rfl (lv_at hl 4 rfl) ?_
    refine lv_aload_n hx hb dX5_tempt_56 rfl (lv_at hl 3 rfl) ?_
    refine lv_bipush (v := 119) hx hb dX5_tempt_57 (by decide) ?_
    refine lv_bipush (v := 99) hx hb dX5_tempt_59 (by decide) ?_
    refine lv_aload_n hx hb dX5_tempt_61 rfl (lv_at hl 1 rfl) ?_
    refine va_get (D := G.1) (ci := 5) (v := .ref (a0 1)) (C := RX5) (T := TX5) (N := 4) hx hb hts inlX5 hown hK hPD.1 0 rfl rfl 1 (by decide) (hts _ gw_280) (fun _ h9 => h9) rfl dX5_tempt_62 ?_
    obtain ⟨q_7, hq_7, h⟩ := ob2 h
    refine kVI (As := [.int 119, .int 99, .ref (a0 1)]) (rest := [.int p3, .ref h1, .ref h0]) C0 (kt_X2_rate l G h2 a2 (a0 1) f2 A2 8 (A0 1) 119 99 (by decide) hq_7) gi_V_X5_104_X2_rate (n := 3) rfl (by decide +kernel) rfl ⟨rfl, rfl, Nat.le_of_ble_eq_true rfl, Nat.le_of_ble_eq_true rfl⟩ hPD hS 9 2 rfl rfl rfl [9, 10, 11, 12, 13, 14, 15, 16, 2] [0, 1, 3, 4, 5, 6, 7, 8] [0, 1, 16, 2, 3, 4, 5, 6, 7, 8, 9, 10, 11, 12, 13, 14, 15] (wN := (wX5 G h0 a0 f0 A0 ++ (wX6 G h1 a1 f1 A1 ++ (wX2 G h2 a2 q_7.2.2 q_7.2.1)))) rfl rfl rfl rfl rfl hl.1 (Nat.le_of_ble_eq_true rfl) dX5_tempt_65 (fun H locs hPD hS => ?_)
    obtain ⟨q_8, hq_8, h⟩ := ob2 h
    refine kVV (As := [.ref h1, .int p3, .int q_7.1]) (rest := []) C0 (kt_X5_pay l G h0 a0 h1 a1 f0 A0 f1 A1 p3 q_7.1 hq_8) gi_V_X5_112_X5_pay (n := 3) rfl (by decide +kernel) rfl ⟨rfl, rfl, Nat.le_of_ble_eq_true rfl, Nat.le_of_ble_eq_true rfl⟩ hPD hS 0 5 rfl rfl rfl [0, 1, 2, 3, 4, 5, 6, 7, 8] [9, 10, 11, 12, 13, 14, 15, 16] [8, 9, 10, 11, 12, 13, 14, 15, 16, 0, 1, 2, 3, 4, 5, 6, 7] (wN := (wX5 G h0 a0 q_8.1 A0 ++ (wX6 G h1 a1 f1 q_8.2 ++ (wX2 G h2 a2 q_7.2.2 q_7.2.1)))) rfl rfl rfl rfl rfl hl.1 (Nat.le_of_ble_eq_true rfl) dX5_tempt_68 (fun H locs hPD hS => ?_)
    refine lv_goto (tgt := 127) hx hb dX5_tempt_71 (by decide) ?_
    obtain rfl := Option.some.inj h
    exact eV C0 hPD.1 hPD.2 hS dX5_tempt_127
end WALK
