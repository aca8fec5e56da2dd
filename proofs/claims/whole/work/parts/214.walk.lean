section WALK
variable {p : Program} {l : Launch} {e : Env} {s : State} {m : MethodId} {args : Array Value} {below : List Frame} {meth : Method} {c : Code} {G : Gp} {DA : Nat → Prop}
abbrev rmX5_pay : Room := { frames := 3, cells := 0, slots := 0, locals := 64 }
set_option maxRecDepth 100000 in
set_option maxHeartbeats 4000000 in
theorem ww_f5_pay_b3  (C0 : Cx cX5_pay 5 none RX5 p s m args meth c G DA) {h0 : Nat} {a0 : Nat → Nat} {h1 : Nat} {a1 : Nat → Nat} {A0 : Nat → Nat → Int32} {f1 : Nat → Int32} {p2 : Int32} {p3 : Int32}  {k3 : (Nat → Int32) → (Nat → Nat → Int32) → Int32 → Option ((Nat → Int32) × (Nat → Nat → Int32))} {res : (Nat → Int32) × (Nat → Nat → Int32)}  (hk3 : ∀ (f0 : Nat → Int32) (A1 : Nat → Nat → Int32) (l4 : Int32), k3 f0 A1 l4 = some res → ∀ (H : Heap) (locs : List Loc) (ls : Array Slot), WD G DA (wX5 G h0 a0 f0 A0 ++ (wX6 G h1 a1 f1 A1)) H → va_S DA s.heap H locs → lv_has ls 5 [(0, .ref h0), (1, .ref h1), (2, .int p2), (3, .int p3), (4, .int l4)] → W p l e rmX5_pay s m args below meth c H locs 0 0 (MQ below (QV G DA (wX5 G h0 a0 res.1 A0 ++ (wX6 G h1 a1 f1 res.2))) args s 0 0 DA) (F0 m 3 ls [])) : ∀ (f0 : Nat → Int32) (A1 : Nat → Nat → Int32) (l4 : Int32), f5_pay_b3 A0 f1 p2 p3  k3 f0 A1 l4 = some res → ∀ (H : Heap) (locs : List Loc) (ls : Array Slot), WD G DA (wX5 G h0 a0 f0 A0 ++ (wX6 G h1 a1 f1 A1)) H → va_S DA s.heap H locs → lv_has ls 5 [(0, .ref h0), (1, .ref h1), (2, .int p2), (3, .int p3), (4, .int l4)] → W p l e rmX5_pay s m args below meth c H locs 0 0 (MQ below (QV G DA (wX5 G h0 a0 res.1 A0 ++ (wX6 G h1 a1 f1 res.2))) args s 0 0 DA) (F0 m 3 ls []) := by
  obtain ⟨hx, hb, hml, hown, hts⟩ := C0.1
  have hK := C0.2.2.2.1
  intro f0 A1 l4 h _ _ _ hPD hS hl
  unfold f5_pay_b3 at h
  refine lv_iload hx hb dX5_pay_3 (lv_at hl 4 rfl) ?_
  refine lv_bipush (v := 8) hx hb dX5_pay_5 (by decide) ?_
  refine lv_icmp_ge (tgt := 73) hx hb dX5_pay_7 (by decide) (fun cc1 => ?_) (fun cc1 => ?_)
  · have h := (if_pos cc1).symm.trans h
    obtain rfl := Option.some.inj h
    exact eV C0 hPD.1 hPD.2 hS dX5_pay_73
  · have h := (if_neg cc1).symm.trans h
    refine lv_aload_n hx hb dX5_pay_10 rfl (lv_at hl 1 rfl) ?_
    refine lv_iload hx hb dX5_pay_11 (lv_at hl 4 rfl) ?_
    refine kVI (As := [.int l4]) (rest := []) C0 (kt_X6_isTold l G h1 a1 f1 A1 l4) gi_V_X5_61_X6_isTold (n := 1) rfl (by decide +kernel) rfl ⟨rfl, rfl, Nat.le_of_ble_eq_true rfl, Nat.le_of_ble_eq_true rfl⟩ hPD hS 3 6 rfl rfl rfl [3, 4, 5, 6, 7, 8] [0, 1, 2] [0, 1, 2, 3, 4, 5, 6, 7, 8] (wr := (wX5 G h0 a0 f0 A0)) (wN := (wX5 G h0 a0 f0 A0 ++ (wX6 G h1 a1 f1 A1))) rfl rfl rfl rfl rfl hl.1 (Nat.le_of_ble_eq_true rfl) dX5_pay_13 (fun H locs hPD hS => ?_)
    refine lv_if_eq (tgt := 67) hx hb dX5_pay_16 (by decide) (fun cc1 => ?_) (fun cc1 => ?_)
    · have h := (if_pos cc1).symm.trans h
      refine lv_iinc (v := l4 + 1) (lv' := [(4, .int (l4 + 1)), (0, .ref h0), (1, .ref h1), (2, .int p2), (3, .int p3)]) hx hb dX5_pay_67 hl (k := 4) rfl rfl (by decide) rfl (fun ls hl => ?_)
      refine lv_goto (tgt := 3) hx hb dX5_pay_70 (by decide) ?_
      exact hk3 f0 A1 (l4 + 1) h _ _ _ hPD hS (lv_sub hl [1, 2, 3, 4, 0] rfl)
    · have h := (if_neg cc1).symm.trans h
      refine lv_aload_n hx hb dX5_pay_19 rfl (lv_at hl 1 rfl) ?_
      refine va_get (D := G.1) (ci := 6) (v := .ref (a1 3)) (C := RX6) (T := TX6) (N := 10) hx hb hts inlX6 hown hK hPD.1 3 rfl rfl 3 (by decide) (hts _ gw_273) (fun _ h9 => h9) rfl dX5_pay_20 ?_
      refine lv_iload hx hb dX5_pay_23 (lv_at hl 4 rfl) ?_
      refine kNI (As := [.ref (a1 3), .int l4]) (rest := []) C0 (kt_X9_at l G (a1 3) 8 (A1 3) l4 (by decide)) gi_U_X9_at (host := "IdleCrimes") (index := 49) (List.mem_of_getElem? (i := 24) rfl) gw_6 gw_7 (n := 2) rfl (by decide +kernel) ⟨rfl, rfl, Nat.le_of_ble_eq_true rfl, Nat.le_of_ble_eq_true rfl⟩ hPD hS [7] [0, 1, 2, 3, 4, 5, 6, 8] [0, 1, 2, 3, 4, 5, 6, 8, 7] (wr := pick (wX5 G h0 a0 f0 A0 ++ (wX6 G h1 a1 f1 A1)) [0, 1, 2, 3, 4, 5, 6, 8]) (wN := (wX5 G h0 a0 f0 A0 ++ (wX6 G h1 a1 f1 A1))) rfl rfl rfl rfl rfl hl.1 (Nat.le_of_ble_eq_true rfl) dX5_pay_25 (fun H locs hPD hS => ?_)
      refine lv_iload_n hx hb dX5_pay_28 rfl (lv_at hl 2 rfl) ?_
      refine lv_icmp_ne (tgt := 67) hx hb dX5_pay_29 (by decide) (fun cc1 => ?_) (fun cc1 => ?_)
      · have h := (if_neg cc1).symm.trans h
        refine lv_iinc (v := l4 + 1) (lv' := [(4, .int (l4 + 1)), (0, .ref h0), (1, .ref h1), (2, .int p2), (3, .int p3)]) hx hb dX5_pay_67 hl (k := 4) rfl rfl (by decide) rfl (fun ls hl => ?_)
        refine lv_goto (tgt := 3) hx hb dX5_pay_70 (by decide) ?_
        exact hk3 f0 A1 (l4 + 1) h _ _ _ hPD hS (lv_sub hl [1, 2, 3, 4, 0] rfl)
      · have h := (if_pos cc1).symm.trans h
        refine lv_aload_n hx hb dX5_pay_32 rfl (lv_at hl 1 rfl) ?_
        refine va_get (D := G.1) (ci := 6) (v := .ref (a1 4)) (C := RX6) (T := TX6) (N := 10) hx hb hts inlX6 hown hK hPD.1 3 rfl rfl 4 (by decide) (hts _ gw_285) (fun _ h9 => h9) rfl dX5_pay_33 ?_
        refine lv_iload hx hb dX5_pay_36 (lv_at hl 4 rfl) ?_
        refine lv_aload_n hx hb dX5_pay_38 rfl (lv_at hl 1 rfl) ?_
        refine va_get (D := G.1) (ci := 6) (v := .ref (a1 4)) (C := RX6) (T := TX6) (N := 10) hx hb hts inlX6 hown hK hPD.1 3 rfl rfl 4 (by decide) (hts _ gw_285) (fun _ h9 => h9) rfl dX5_pay_39 ?_
        refine lv_iload hx hb dX5_pay_42 (lv_at hl 4 rfl) ?_
        refine kNI (As := [.ref (a1 4), .int l4]) (rest := [.int l4, .ref (a1 4)]) C0 (kt_X9_at l G (a1 4) 8 (A1 4) l4 (by decide)) gi_U_X9_at (host := "IdleCrimes") (index := 49) (List.mem_of_getElem? (i := 24) rfl) gw_6 gw_7 (n := 2) rfl (by decide +kernel) ⟨rfl, rfl, Nat.le_of_ble_eq_true rfl, Nat.le_of_ble_eq_true rfl⟩ hPD hS [8] [0, 1, 2, 3, 4, 5, 6, 7] [0, 1, 2, 3, 4, 5, 6, 7, 8] (wr := pick (wX5 G h0 a0 f0 A0 ++ (wX6 G h1 a1 f1 A1)) [0, 1, 2, 3, 4, 5, 6, 7]) (wN := (wX5 G h0 a0 f0 A0 ++ (wX6 G h1 a1 f1 A1))) rfl rfl rfl rfl rfl hl.1 (Nat.le_of_ble_eq_true rfl) dX5_pay_44 (fun H locs hPD hS => ?_)
        refine lv_iload_n hx hb dX5_pay_47 rfl (lv_at hl 3 rfl) ?_
        refine lv_iadd hx hb dX5_pay_48 ?_
        refine lv_ldc (v := 999999) hx hb hown (hts _ gw_286) dX5_pay_49 ?_
        refine va_mmin hx hb (hml.trans hl.1.symm) hown (hts _ gw_276) (hts _ gw_205) (hts _ gw_206) (hts _ gw_207) (Nat.le_of_ble_eq_true rfl) (Nat.le_of_ble_eq_true rfl) (Nat.zero_le _) (Nat.zero_le _) dX5_pay_51 ?_
        obtain ⟨z_1, ez_1, h⟩ := lvl h
        have kc := kt_X9_put l G (a1 4) 8 (A1 4) l4 (imin ((f9_at 8 (A1 4) l4) + p3) 999999) (by decide)
        rw [← ez_1] at kc
        clear ez_1
        refine kNV (As := [.ref (a1 4), .int l4, .int (imin ((f9_at 8 (A1 4) l4) + p3) 999999)]) (rest := []) C0 (kc) gi_U_X9_put (host := "IdleCrimes") (index := 75) (List.mem_of_getElem? (i := 26) rfl) gw_6 gw_19 (n := 3) rfl (by decide +kernel) ⟨rfl, rfl, Nat.le_of_ble_eq_true rfl, Nat.le_of_ble_eq_true rfl⟩ hPD hS [8] [0, 1, 2, 3, 4, 5, 6, 7] [0, 1, 2, 3, 4, 5, 6, 7, 8] (wr := pick (wX5 G h0 a0 f0 A0 ++ (wX6 G h1 a1 f1 A1)) [0, 1, 2, 3, 4, 5, 6, 7]) (wN := (wX5 G h0 a0 f0 A0 ++ (wX6 G h1 a1 f1 (updA A1 4 z_1)))) rfl rfl rfl rfl rfl hl.1 (Nat.le_of_ble_eq_true rfl) dX5_pay_54 (fun H locs hPD hS => ?_)
        obtain ⟨A1_2, eA1_2, h⟩ := lvl h
        have hPD : WD G DA (wX5 G h0 a0 f0 A0 ++ (wX6 G h1 a1 f1 A1_2)) H := by rw [eA1_2]; exact hPD
        clear eA1_2
        refine lv_aload_n hx hb dX5_pay_57 rfl (lv_at hl 0 rfl) ?_
        refine lv_dup hx hb dX5_pay_58 rfl ?_
        refine va_get (D := G.1) (ci := 5) (v := .int (f0 3)) (C := RX5) (T := TX5) (N := 4) hx hb hts inlX5 hown hK hPD.1 0 rfl rfl 3 (by decide) (hts _ gw_287) (fun _ h9 => h9) rfl dX5_pay_59 ?_
        refine lv_iload_n hx hb dX5_pay_62 rfl (lv_at hl 3 rfl) ?_
        refine lv_iadd hx hb dX5_pay_63 ?_
        refine va_put (D := G.1) (ci := 5) (v := .int ((f0 3) + p3)) (ty := .int) (C := RX5) (T := TX5) (N := 4) hx hb hts inlX5 tyX5 tyX5_ok nmX5 hown hK hPD.1 hPD.2 hS 0 rfl rfl 3 (by decide) (hts _ gw_287) (fun _ h9 => h9) rfl (by decide +kernel) rfl rfl (Nat.le_of_ble_eq_true rfl) dX5_pay_64 (fun H locs hP hD hS => ?_)
        obtain ⟨f0_3, ef0_3, h⟩ := lvl h
        have hPD : WD G DA (wX5 G h0 a0 f0_3 A0 ++ (wX6 G h1 a1 f1 A1_2)) H := by rw [ef0_3]; exact ⟨hP, hD⟩
        clear ef0_3 hP hD
        refine lv_iinc (v := l4 + 1) (lv' := [(4, .int (l4 + 1)), (0, .ref h0), (1, .ref h1), (2, .int p2), (3, .int p3)]) hx hb dX5_pay_67 hl (k := 4) rfl rfl (by decide) rfl (fun ls hl => ?_)
        refine lv_goto (tgt := 3) hx hb dX5_pay_70 (by decide) ?_
        exact hk3 f0_3 A1_2 (l4 + 1) h _ _ _ hPD hS (lv_sub hl [1, 2, 3, 4, 0] rfl)
set_option maxRecDepth 100000 in
set_option maxHeartbeats 4000000 in
theorem ww_f5_pay_l3  (C0 : Cx cX5_pay 5 none RX5 p s m args meth c G DA) {h0 : Nat} {a0 : Nat → Nat} {h1 : Nat} {a1 : Nat → Nat} {A0 : Nat → Nat → Int32} {f1 : Nat → Int32} {p2 : Int32} {p3 : Int32}   {res : (Nat → Int32) × (Nat → Nat → Int32)}  : ∀ (n : Nat) (f0 : Nat → Int32) (A1 : Nat → Nat → Int32) (l4 : Int32), f5_pay_l3 A0 f1 p2 p3  n f0 A1 l4 = some res → ∀ (H : Heap) (locs : List Loc) (ls : Array Slot), WD G DA (wX5 G h0 a0 f0 A0 ++ (wX6 G h1 a1 f1 A1)) H → va_S DA s.heap H locs → lv_has ls 5 [(0, .ref h0), (1, .ref h1), (2, .int p2), (3, .int p3), (4, .int l4)] → W p l e rmX5_pay s m args below meth c H locs 0 0 (MQ below (QV G DA (wX5 G h0 a0 res.1 A0 ++ (wX6 G h1 a1 f1 res.2))) args s 0 0 DA) (F0 m 3 ls []) := by
  intro n
  induction n with
  | zero => intro f0 A1 l4 h; cases h
  | succ n ih => intro f0 A1 l4 h; exact ww_f5_pay_b3 C0  ih f0 A1 l4 h
set_option maxRecDepth 100000 in
set_option maxHeartbeats 4000000 in
theorem kt_X5_pay (l : Launch) (G : Gp) (h0 : Nat) (a0 : Nat → Nat) (h1 : Nat) (a1 : Nat → Nat) (f0 : Nat → Int32) (A0 : Nat → Nat → Int32) (f1 : Nat → Int32) (A1 : Nat → Nat → Int32) (p2 : Int32) (p3 : Int32) : ∀ {r : (Nat → Int32) × (Nat → Nat → Int32)}, f5_pay f0 A0 f1 A1 p2 p3 = some r → CtrV l yX5_pay cX5_pay 5 none rmX5_pay G [.ref h0, .ref h1, .int p2, .int p3] (wX5 G h0 a0 f0 A0 ++ (wX6 G h1 a1 f1 A1)) (wX5 G h0 a0 r.1 A0 ++ (wX6 G h1 a1 f1 r.2)) := by
  intro res h
  refine ctrV_of (cc := cX5_pay) (maxL := 5) (ret := none) (by decide +kernel) rfl (Nat.le_of_ble_eq_true rfl) (fun p e s m below meth c DA C0 hP hD ls hl => ?_)
  have hPD : WD G DA (wX5 G h0 a0 f0 A0 ++ (wX6 G h1 a1 f1 A1)) s.heap := ⟨hP, hD⟩
  have hS : va_S DA s.heap s.heap [] := va_S.rf
  have hl : lv_has ls 5 [(0, .ref h0), (1, .ref h1), (2, .int p2), (3, .int p3)] := hl
  obtain ⟨hx, hb, hml, hown, hts⟩ := C0.1
  have hK := C0.2.2.2.1
  unfold f5_pay at h
  refine lv_iconst (v := 0) hx hb dX5_pay_0 (by decide) ?_
  refine lv_istore (lv' := [(4, .int 0), (0, .ref h0), (1, .ref h1), (2, .int p2), (3, .int p3)]) hx hb dX5_pay_1 hl (by decide) rfl (fun ls hl => ?_)
  exact ww_f5_pay_l3 C0 NF f0 A1 0 h _ _ _ hPD hS (lv_sub hl [1, 2, 3, 4, 0] rfl)
abbrev rmX5_tempt : Room := { frames := 4, cells := 0, slots := 0, locals := 88 }
set_option maxRecDepth 100000 in
set_option maxHeartbeats 4000000 in
theorem ww_f5_tempt_b40  (C0 : Cx cX5_tempt 6 none RX5 p s m args meth c G DA) {h0 : Nat} {a0 : Nat → Nat} {h1 : Nat} {a1 : Nat → Nat} {h2 : Nat} {a2 : Nat → Nat} {A0 : Nat → Nat → Int32} {p3 : Int32}   {res : (Nat → Int32) × (Nat → Nat → Int32) × (Nat → Int32) × (Nat → Nat → Int32) × (Nat → Int32)}  : ∀ (f0 : Nat → Int32) (A1 : Nat → Nat → Int32) (f1 : Nat → Int32) (A2 : Nat → Nat → Int32) (f2 : Nat → Int32) (s0 : Int32), f5_tempt_b40 A0 p3  f0 A1 f1 A2 f2 s0 = some res → ∀ (H : Heap) (locs : List Loc) (ls : Array Slot), WD G DA (wX5 G h0 a0 f0 A0 ++ (wX6 G h1 a1 f1 A1 ++ (wX2 G h2 a2 f2 A2))) H → va_S DA s.heap H locs → lv_has ls 6 [(0, .ref h0), (1, .ref h1), (2, .ref h2), (3, .int p3)] → W p l e rmX5_tempt s m args below meth c H locs 0 0 (MQ below (QV G DA (wX5 G h0 a0 res.1 A0 ++ (wX6 G h1 a1 res.2.2.1 res.2.1 ++ (wX2 G h2 a2 res.2.2.2.2 res.2.2.2.1)))) args s 0 0 DA) (F0 m 40 ls [.int s0]) := by
  obtain ⟨hx, hb, hml, hown, hts⟩ := C0.1
  have hK := C0.2.2.2.1
  intro f0 A1 f1 A2 f2 s0 h _ _ _ hPD hS hl
  unfold f5_tempt_b40 at h
  refine lv_istore (lv' := [(5, .int s0), (0, .ref h0), (1, .ref h1), (2, .ref h2), (3, .int p3)]) hx hb dX5_tempt_40 hl (by decide) rfl (fun ls hl => ?_)
  refine lv_aload_n hx hb dX5_tempt_42 rfl (lv_at hl 1 rfl) ?_
  refine va_get (D := G.1) (ci := 5) (v := .ref (a0 0)) (C := RX5) (T := TX5) (N := 4) hx hb hts inlX5 hown hK hPD.1 0 rfl rfl 0 (by decide) (hts _ gw_274) (fun _ h9 => h9) rfl dX5_tempt_43 ?_
  refine lv_iload_n hx hb dX5_tempt_46 rfl (lv_at hl 4 rfl) ?_
  refine kNI (As := [.ref (a0 0), .int p3]) (rest := []) C0 (kt_X9_at l G (a0 0) 16 (A0 0) p3 (by decide)) gi_U_X9_at (host := "IdleCrimes") (index := 49) (List.mem_of_getElem? (i := 24) rfl) gw_6 gw_7 (n := 2) rfl (by decide +kernel) ⟨rfl, rfl, Nat.le_of_ble_eq_true rfl, Nat.le_of_ble_eq_true rfl⟩ hPD hS [1] [0, 2, 3, 4, 5, 6, 7, 8, 9, 10, 11, 12, 13, 14, 15, 16] [0, 16, 1, 2, 3, 4, 5, 6, 7, 8, 9, 10, 11, 12, 13, 14, 15] (wr := pick (wX5 G h0 a0 f0 A0 ++ (wX6 G h1 a1 f1 A1 ++ (wX2 G h2 a2 f2 A2))) [0, 2, 3, 4, 5, 6, 7, 8, 9, 10, 11, 12, 13, 14, 15, 16]) (wN := (wX5 G h0 a0 f0 A0 ++ (wX6 G h1 a1 f1 A1 ++ (wX2 G h2 a2 f2 A2)))) rfl rfl rfl rfl rfl hl.1 (Nat.le_of_ble_eq_true rfl) dX5_tempt_47 (fun H locs hPD hS => ?_)
  refine lv_if_le (tgt := 74) hx hb dX5_tempt_50 (by decide) (fun cc1 => ?_) (fun cc1 => ?_)
  · have h := (if_pos cc1).symm.trans h
    refine lv_iload hx hb dX5_tempt_74 (lv_at hl 0 rfl) ?_
    refine lv_if_eq (tgt := 127) hx hb dX5_tempt_76 (by decide) (fun cc1 => ?_) (fun cc1 => ?_)
    · have h := (if_pos cc1).symm.trans h
      obtain rfl := Option.some.inj h
      exact eV C0 hPD.1 hPD.2 hS dX5_tempt_127
    · have h := (if_neg cc1).symm.trans h
      refine lv_aload_n hx hb dX5_tempt_79 rfl (lv_at hl 1 rfl) ?_
      refine lv_dup hx hb dX5_tempt_80 rfl ?_
      refine va_get (D := G.1) (ci := 5) (v := .int (f0 2)) (C := RX5) (T := TX5) (N := 4) hx hb hts inlX5 hown hK hPD.1 0 rfl rfl 2 (by decide) (hts _ gw_300) (fun _ h9 => h9) rfl dX5_tempt_81 ?_
      refine lv_iconst (v := 1) hx hb dX5_tempt_84 (by decide) ?_
      refine lv_iadd hx hb dX5_tempt_85 ?_
      refine va_put (D := G.1) (ci := 5) (v := .int ((f0 2) + 1)) (ty := .int) (C := RX5) (T := TX5) (N := 4) hx hb hts inlX5 tyX5 tyX5_ok nmX5 hown hK hPD.1 hPD.2 hS 0 rfl rfl 2 (by decide) (hts _ gw_300) (fun _ h9 => h9) rfl (by decide +kernel) rfl rfl (Nat.le_of_ble_eq_true rfl) dX5_tempt_86 (fun H locs hP hD hS => ?_)
      obtain ⟨f0_4, ef0_4, h⟩ := lvl h
      have hPD : WD G DA (wX5 G h0 a0 f0_4 A0 ++ (wX6 G h1 a1 f1 A1 ++ (wX2 G h2 a2 f2 A2))) H := by rw [ef0_4]; exact ⟨hP, hD⟩
      clear ef0_4 hP hD
      refine lv_aload_n hx hb dX5_tempt_89 rfl (lv_at hl 2 rfl) ?_
      refine lv_aload_n hx hb dX5_tempt_90 rfl (lv_at hl 2 rfl) ?_
      refine va_get (D := G.1) (ci := 6) (v := .int (f1 7)) (C := RX6) (T := TX6) (N := 10) hx hb hts inlX6 hown hK hPD.1 3 rfl rfl 7 (by decide) (hts _ gw_282) (fun _ h9 => h9) rfl dX5_tempt_91 ?_
      refine lv_iconst (v := 1) hx hb dX5_tempt_94 (by decide) ?_
      refine lv_iadd hx hb dX5_tempt_95 ?_
      refine lv_sipush (v := 9999) hx hb dX5_tempt_96 (by decide) ?_
      refine va_mmin hx hb (hml.trans hl.1.symm) hown (hts _ gw_276) (hts _ gw_205) (hts _ gw_206) (hts _ gw_207) (Nat.le_of_ble_eq_true rfl) (Nat.le_of_ble_eq_true rfl) (Nat.zero_le _) (Nat.zero_le _) dX5_tempt_99 ?_
      refine va_put (D := G.1) (ci := 6) (v := .int (imin ((f1 7) + 1) 9999)) (ty := .int) (C := RX6) (T := TX6) (N := 10) hx hb hts inlX6 tyX6 tyX6_ok nmX6 hown hK hPD.1 hPD.2 hS 3 rfl rfl 7 (by decide) (hts _ gw_282) (fun _ h9 => h9) rfl (by decide +kernel) rfl rfl (Nat.le_of_ble_eq_true rfl) dX5_tempt_102 (fun H locs hP hD hS => ?_)
      obtain ⟨f1_5, ef1_5, h⟩ := lvl h
      have hPD : WD G DA (wX5 G h0 a0 f0_4 A0 ++ (wX6 G h1 a1 f1_5 A1 ++ (wX2 G h2 a2 f2 A2))) H := by rw [ef1_5]; exact ⟨hP, hD⟩
      clear ef1_5 hP hD
      refine lv_aload_n hx hb dX5_tempt_105 rfl (lv_at hl 2 rfl) ?_
      refine lv_aload_n hx hb dX5_tempt_106 rfl (lv_at hl 2 rfl) ?_
      refine va_get (D := G.1) (ci := 6) (v := .int (f1_5 6)) (C := RX6) (T := TX6) (N := 10) hx hb hts inlX6 hown hK hPD.1 3 rfl rfl 6 (by decide) (hts _ gw_301) (fun _ h9 => h9) rfl dX5_tempt_107 ?_
      refine lv_aload_n hx hb dX5_tempt_110 rfl (lv_at hl 2 rfl) ?_
      refine va_get (D := G.1) (ci := 6) (v := .ref (a1 1)) (C := RX6) (T := TX6) (N := 10) hx hb hts inlX6 hown hK hPD.1 3 rfl rfl 1 (by decide) (hts _ gw_279) (fun _ h9 => h9) rfl dX5_tempt_111 ?_
      refine lv_iload_n hx hb dX5_tempt_114 rfl (lv_at hl 4 rfl) ?_
      refine kNI (As := [.ref (a1 1), .int p3]) (rest := [.int (f1_5 6), .ref h1]) C0 (kt_X9_at l G (a1 1) 16 (A1 1) p3 (by decide)) gi_U_X9_at (host := "IdleCrimes") (index := 49) (List.mem_of_getElem? (i := 24) rfl) gw_6 gw_7 (n := 2) rfl (by decide +kernel) ⟨rfl, rfl, Nat.le_of_ble_eq_true rfl, Nat.le_of_ble_eq_true rfl⟩ hPD hS [5] [0, 1, 2, 3, 4, 6, 7, 8, 9, 10, 11, 12, 13, 14, 15, 16] [0, 1, 2, 3, 4, 16, 5, 6, 7, 8, 9, 10, 11, 12, 13, 14, 15] (wr := pick (wX5 G h0 a0 f0_4 A0 ++ (wX6 G h1 a1 f1_5 A1 ++ (wX2 G h2 a2 f2 A2))) [0, 1, 2, 3, 4, 6, 7, 8, 9, 10, 11, 12, 13, 14, 15, 16]) (wN := (wX5 G h0 a0 f0_4 A0 ++ (wX6 G h1 a1 f1_5 A1 ++ (wX2 G h2 a2 f2 A2)))) rfl rfl rfl rfl rfl hl.1 (Nat.le_of_ble_eq_true rfl) dX5_tempt_115 (fun H locs hPD hS => ?_)
      refine lv_iadd hx hb dX5_tempt_118 ?_
      refine lv_ldc (v := 999999) hx hb hown (hts _ gw_286) dX5_tempt_119 ?_
      refine va_mmin hx hb (hml.trans hl.1.symm) hown (hts _ gw_276) (hts _ gw_205) (hts _ gw_206) (hts _ gw_207) (Nat.le_of_ble_eq_true rfl) (Nat.le_of_ble_eq_true rfl) (Nat.zero_le _) (Nat.zero_le _) dX5_tempt_121 ?_
      refine va_put (D := G.1) (ci := 6) (v := .int (imin ((f1_5 6) + (f9_at 16 (A1 1) p3)) 999999)) (ty := .int) (C := RX6) (T := TX6) (N := 10) hx hb hts inlX6 tyX6 tyX6_ok nmX6 hown hK hPD.1 hPD.2 hS 3 rfl rfl 6 (by decide) (hts _ gw_301) (fun _ h9 => h9) rfl (by decide +kernel) rfl rfl (Nat.le_of_ble_eq_true rfl) dX5_tempt_124 (fun H locs hP hD hS => ?_)
      obtain ⟨f1_6, ef1_6, h⟩ := lvl h
      have hPD : WD G DA (wX5 G h0 a0 f0_4 A0 ++ (wX6 G h1 a1 f1_6 A1 ++ (wX2 G h2 a2 f2 A2))) H := by rw [ef1_6]; exact ⟨hP, hD⟩
      clear ef1_6 hP hD
      obtain rfl := Option.some.inj h
      exact eV C0 hPD.1 hPD.2 hS dX5_tempt_127
  · have h := (if_neg cc1).symm.trans h
    refine lv_aload_n hx hb dX5_tempt_53 rfl (lv_at hl 1 rfl) ?_
    refine lv_aload_n hx hb dX5_tempt_54 rfl (lv_at hl 2 rfl) ?_
    refine lv_iload_n hx hb dX5_tempt_55 rfl (lv_at hl 4 rfl) ?_
    refine lv_aload_n hx hb dX5_tempt_56 rfl (lv_at hl 3 rfl) ?_
    refine lv_bipush (v := 119) hx hb dX5_tempt_57 (by decide) ?_
    refine lv_bipush (v := 99) hx hb dX5_tempt_59 (by decide) ?_
    refine lv_aload_n hx hb dX5_tempt_61 rfl (lv_at hl 1 rfl) ?_
    refine va_get (D := G.1) (ci := 5) (v := .ref (a0 1)) (C := RX5) (T := TX5) (N := 4) hx hb hts inlX5 hown hK hPD.1 0 rfl rfl 1 (by decide) (hts _ gw_277) (fun _ h9 => h9) rfl dX5_tempt_62 ?_
    obtain ⟨q_7, hq_7, h⟩ := ob2 h
    refine kVI (As := [.int 119, .int 99, .ref (a0 1)]) (rest := [.int p3, .ref h1, .ref h0]) C0 (kt_X2_rate l G h2 a2 (a0 1) f2 A2 8 (A0 1) 119 99 (by decide) hq_7) gi_V_X5_104_X2_rate (n := 3) rfl (by decide +kernel) rfl ⟨rfl, rfl, Nat.le_of_ble_eq_true rfl, Nat.le_of_ble_eq_true rfl⟩ hPD hS 9 2 rfl rfl rfl [9, 10, 11, 12, 13, 14, 15, 16, 2] [0, 1, 3, 4, 5, 6, 7, 8] [0, 1, 16, 2, 3, 4, 5, 6, 7, 8, 9, 10, 11, 12, 13, 14, 15] (wr := pick (wX5 G h0 a0 f0 A0 ++ (wX6 G h1 a1 f1 A1 ++ (wX2 G h2 a2 f2 A2))) [0, 1, 3, 4, 5, 6, 7, 8]) (wN := (wX5 G h0 a0 f0 A0 ++ (wX6 G h1 a1 f1 A1 ++ (wX2 G h2 a2 q_7.2.2 q_7.2.1)))) rfl rfl rfl rfl rfl hl.1 (Nat.le_of_ble_eq_true rfl) dX5_tempt_65 (fun H locs hPD hS => ?_)
    obtain ⟨q_8, hq_8, h⟩ := ob2 h
    refine kVV (As := [.ref h1, .int p3, .int q_7.1]) (rest := []) C0 (kt_X5_pay l G h0 a0 h1 a1 f0 A0 f1 A1 p3 q_7.1 hq_8) gi_V_X5_112_X5_pay (n := 3) rfl (by decide +kernel) rfl ⟨rfl, rfl, Nat.le_of_ble_eq_true rfl, Nat.le_of_ble_eq_true rfl⟩ hPD hS 0 5 rfl rfl rfl [0, 1, 2, 3, 4, 5, 6, 7, 8] [9, 10, 11, 12, 13, 14, 15, 16] [8, 9, 10, 11, 12, 13, 14, 15, 16, 0, 1, 2, 3, 4, 5, 6, 7] (wr := (wX2 G h2 a2 q_7.2.2 q_7.2.1)) (wN := (wX5 G h0 a0 q_8.1 A0 ++ (wX6 G h1 a1 f1 q_8.2 ++ (wX2 G h2 a2 q_7.2.2 q_7.2.1)))) rfl rfl rfl rfl rfl hl.1 (Nat.le_of_ble_eq_true rfl) dX5_tempt_68 (fun H locs hPD hS => ?_)
    refine lv_goto (tgt := 127) hx hb dX5_tempt_71 (by decide) ?_
    obtain rfl := Option.some.inj h
    exact eV C0 hPD.1 hPD.2 hS dX5_tempt_127
set_option maxRecDepth 100000 in
set_option maxHeartbeats 4000000 in
theorem kt_X5_tempt (l : Launch) (G : Gp) (h0 : Nat) (a0 : Nat → Nat) (h1 : Nat) (a1 : Nat → Nat) (h2 : Nat) (a2 : Nat → Nat) (f0 : Nat → Int32) (A0 : Nat → Nat → Int32) (f1 : Nat → Int32) (A1 : Nat → Nat → Int32) (f2 : Nat → Int32) (A2 : Nat → Nat → Int32) (p3 : Int32) : ∀ {r : (Nat → Int32) × (Nat → Nat → Int32) × (Nat → Int32) × (Nat → Nat → Int32) × (Nat → Int32)}, f5_tempt f0 A0 f1 A1 f2 A2 p3 = some r → CtrV l yX5_tempt cX5_tempt 6 none rmX5_tempt G [.ref h0, .ref h1, .ref h2, .int p3] (wX5 G h0 a0 f0 A0 ++ (wX6 G h1 a1 f1 A1 ++ (wX2 G h2 a2 f2 A2))) (wX5 G h0 a0 r.1 A0 ++ (wX6 G h1 a1 r.2.2.1 r.2.1 ++ (wX2 G h2 a2 r.2.2.2.2 r.2.2.2.1))) := by
  intro res h
  refine ctrV_of (cc := cX5_tempt) (maxL := 6) (ret := none) (by decide +kernel) rfl (Nat.le_of_ble_eq_true rfl) (fun p e s m below meth c DA C0 hP hD ls hl => ?_)
  have hPD : WD G DA (wX5 G h0 a0 f0 A0 ++ (wX6 G h1 a1 f1 A1 ++ (wX2 G h2 a2 f2 A2))) s.heap := ⟨hP, hD⟩
  have hS : va_S DA s.heap s.heap [] := va_S.rf
  have hl : lv_has ls 6 [(0, .ref h0), (1, .ref h1), (2, .ref h2), (3, .int p3)] := hl
  obtain ⟨hx, hb, hml, hown, hts⟩ := C0.1
  have hK := C0.2.2.2.1
  unfold f5_tempt at h
  refine lv_aload_n hx hb dX5_tempt_0 rfl (lv_at hl 2 rfl) ?_
  refine lv_aload_n hx hb dX5_tempt_1 rfl (lv_at hl 0 rfl) ?_
  refine va_get (D := G.1) (ci := 5) (v := .ref (a0 1)) (C := RX5) (T := TX5) (N := 4) hx hb hts inlX5 hown hK hPD.1 0 rfl rfl 1 (by decide) (hts _ gw_277) (fun _ h9 => h9) rfl dX5_tempt_2 ?_
  obtain ⟨q_1, hq_1, h⟩ := ob2 h
  refine kVI (As := [.ref (a0 1)]) (rest := []) C0 (kt_X2_isSafe l G h2 a2 (a0 1) f2 A2 8 (A0 1) (by decide) hq_1) gi_V_X5_100_X2_isSafe (n := 1) rfl (by decide +kernel) rfl ⟨rfl, rfl, Nat.le_of_ble_eq_true rfl, Nat.le_of_ble_eq_true rfl⟩ hPD hS 9 2 rfl rfl rfl [9, 10, 11, 12, 13, 14, 15, 16, 2] [0, 1, 3, 4, 5, 6, 7, 8] [0, 1, 16, 2, 3, 4, 5, 6, 7, 8, 9, 10, 11, 12, 13, 14, 15] (wr := pick (wX5 G h0 a0 f0 A0 ++ (wX6 G h1 a1 f1 A1 ++ (wX2 G h2 a2 f2 A2))) [0, 1, 3, 4, 5, 6, 7, 8]) (wN := (wX5 G h0 a0 f0 A0 ++ (wX6 G h1 a1 f1 A1 ++ (wX2 G h2 a2 q_1.2.2 q_1.2.1)))) rfl rfl rfl rfl rfl hl.1 (Nat.le_of_ble_eq_true rfl) dX5_tempt_5 (fun H locs hPD hS => ?_)
  refine lv_if_eq (tgt := 12) hx hb dX5_tempt_8 (by decide) (fun cc1 => ?_) (fun cc1 => ?_)
  · have h := (if_pos cc1).symm.trans h
    refine lv_aload_n hx hb dX5_tempt_12 rfl (lv_at hl 2 rfl) ?_
    refine lv_bipush (v := 114) hx hb dX5_tempt_13 (by decide) ?_
    refine lv_bipush (v := 10) hx hb dX5_tempt_15 (by decide) ?_
    refine lv_aload_n hx hb dX5_tempt_17 rfl (lv_at hl 0 rfl) ?_
    refine va_get (D := G.1) (ci := 5) (v := .ref (a0 1)) (C := RX5) (T := TX5) (N := 4) hx hb hts inlX5 hown hK hPD.1 0 rfl rfl 1 (by decide) (hts _ gw_277) (fun _ h9 => h9) rfl dX5_tempt_18 ?_
    obtain ⟨q_2, hq_2, h⟩ := ob2 h
    refine kVI (As := [.int 114, .int 10, .ref (a0 1)]) (rest := []) C0 (kt_X2_rate l G h2 a2 (a0 1) q_1.2.2 q_1.2.1 8 (A0 1) 114 10 (by decide) hq_2) gi_V_X5_104_X2_rate (n := 3) rfl (by decide +kernel) rfl ⟨rfl, rfl, Nat.le_of_ble_eq_true rfl, Nat.le_of_ble_eq_true rfl⟩ hPD hS 9 2 rfl rfl rfl [9, 10, 11, 12, 13, 14, 15, 16, 2] [0, 1, 3, 4, 5, 6, 7, 8] [0, 1, 16, 2, 3, 4, 5, 6, 7, 8, 9, 10, 11, 12, 13, 14, 15] (wr := pick (wX5 G h0 a0 f0 A0 ++ (wX6 G h1 a1 f1 A1 ++ (wX2 G h2 a2 q_1.2.2 q_1.2.1))) [0, 1, 3, 4, 5, 6, 7, 8]) (wN := (wX5 G h0 a0 f0 A0 ++ (wX6 G h1 a1 f1 A1 ++ (wX2 G h2 a2 q_2.2.2 q_2.2.1)))) rfl rfl rfl rfl rfl hl.1 (Nat.le_of_ble_eq_true rfl) dX5_tempt_21 (fun H locs hPD hS => ?_)
    refine lv_istore (lv' := [(4, .int q_2.1), (0, .ref h0), (1, .ref h1), (2, .ref h2), (3, .int p3)]) hx hb dX5_tempt_24 hl (by decide) rfl (fun ls hl => ?_)
    refine lv_aload_n hx hb dX5_tempt_26 rfl (lv_at hl 2 rfl) ?_
    obtain ⟨q_3, hq_3, h⟩ := ob2 h
    refine kVI (As := []) (rest := []) C0 (kt_X6_draw l G h1 a1 f1 A1 hq_3) gi_V_X5_108_X6_draw (n := 0) rfl (by decide +kernel) rfl ⟨rfl, rfl, Nat.le_of_ble_eq_true rfl, Nat.le_of_ble_eq_true rfl⟩ hPD hS 3 6 rfl rfl rfl [3, 4, 5, 6, 7, 8] [0, 1, 2, 9, 10, 11, 12, 13, 14, 15, 16] [0, 1, 2, 11, 12, 13, 14, 15, 16, 3, 4, 5, 6, 7, 8, 9, 10] (wr := (wX5 G h0 a0 f0 A0 ++ (wX2 G h2 a2 q_2.2.2 q_2.2.1))) (wN := (wX5 G h0 a0 f0 A0 ++ (wX6 G h1 a1 q_3.2 A1 ++ (wX2 G h2 a2 q_2.2.2 q_2.2.1)))) rfl rfl rfl rfl rfl hl.1 (Nat.le_of_ble_eq_true rfl) dX5_tempt_27 (fun H locs hPD hS => ?_)
    refine lv_iload hx hb dX5_tempt_30 (lv_at hl 0 rfl) ?_
    refine lv_icmp_ge (tgt := 39) hx hb dX5_tempt_32 (by decide) (fun cc1 => ?_) (fun cc1 => ?_)
    · have h := (if_pos cc1).symm.trans h
      refine lv_iconst (v := 0) hx hb dX5_tempt_39 (by decide) ?_
      exact ww_f5_tempt_b40 C0 f0 A1 q_3.2 q_2.2.1 q_2.2.2 0 h _ _ _ hPD hS (lv_sub hl [1, 2, 3, 4] rfl)
    · have h := (if_neg cc1).symm.trans h
      refine lv_iconst (v := 1) hx hb dX5_tempt_35 (by decide) ?_
      refine lv_goto (tgt := 40) hx hb dX5_tempt_36 (by decide) ?_
      exact ww_f5_tempt_b40 C0 f0 A1 q_3.2 q_2.2.1 q_2.2.2 1 h _ _ _ hPD hS (lv_sub hl [1, 2, 3, 4] rfl)
  · have h := (if_neg cc1).symm.trans h
    obtain rfl := Option.some.inj h
    exact eV C0 hPD.1 hPD.2 hS dX5_tempt_11
abbrev rmX5_passes : Room := { frames := 5, cells := 0, slots := 0, locals := 113 }
set_option maxRecDepth 100000 in
set_option maxHeartbeats 4000000 in
theorem ww_f5_passes_b38  (C0 : Cx cX5_passes 6 (some .boolean) RX5 p s m args meth c G DA) {h0 : Nat} {a0 : Nat → Nat} {h1 : Nat} {a1 : Nat → Nat} {h2 : Nat} {a2 : Nat → Nat} {h3 : Nat} {a3 : Nat → Nat} {q4 : Nat} {g4 : Nat → Nat} {aB4 : Nat → Nat → Nat} {f3 : Nat → Int32} {A3 : Nat → Nat → Int32} {fB4 : Nat → Nat → Int32} {AB4 : Nat → Nat → Nat → Int32}  {k38 : (Nat → Nat → Int32) → (Nat → Int32) → (Nat → Nat → Int32) → (Nat → Int32) → (Nat → Nat → Int32) → (Nat → Int32) → Int32 → Option (Int32 × (Nat → Nat → Int32) × (Nat → Int32) × (Nat → Nat → Int32) × (Nat → Int32) × (Nat → Nat → Int32) × (Nat → Int32))} {res : Int32 × (Nat → Nat → Int32) × (Nat → Int32) × (Nat → Nat → Int32) × (Nat → Int32) × (Nat → Nat → Int32) × (Nat → Int32)}  (hk38 : ∀ (A0 : Nat → Nat → Int32) (f0 : Nat → Int32) (A1 : Nat → Nat → Int32) (f1 : Nat → Int32) (A2 : Nat → Nat → Int32) (f2 : Nat → Int32) (l5 : Int32), k38 A0 f0 A1 f1 A2 f2 l5 = some res → ∀ (H : Heap) (locs : List Loc) (ls : Array Slot), WD G DA (wX5 G h0 a0 f0 A0 ++ (wX6 G h1 a1 f1 A1 ++ (wX2 G h2 a2 f2 A2 ++ (wX1 G h3 a3 f3 A3 ++ (wB G q4 g4 aB4 fB4 AB4))))) H → va_S DA s.heap H locs → lv_has ls 6 [(0, .ref h0), (1, .ref h1), (2, .ref h2), (3, .ref h3), (4, .ref q4), (5, .int l5)] → W p l e rmX5_passes s m args below meth c H locs 0 0 (MQ below (QI G DA res.1 (wX5 G h0 a0 res.2.2.1 res.2.1 ++ (wX6 G h1 a1 res.2.2.2.2.1 res.2.2.2.1 ++ (wX2 G h2 a2 res.2.2.2.2.2.2 res.2.2.2.2.2.1 ++ (wX1 G h3 a3 f3 A3 ++ (wB G q4 g4 aB4 fB4 AB4)))))) args s 0 0 DA) (F0 m 38 ls [])) : ∀ (A0 : Nat → Nat → Int32) (f0 : Nat → Int32) (A1 : Nat → Nat → Int32) (f1 : Nat → Int32) (A2 : Nat → Nat → Int32) (f2 : Nat → Int32) (l5 : Int32), f5_passes_b38 f3 A3 fB4 AB4  k38 A0 f0 A1 f1 A2 f2 l5 = some res → ∀ (H : Heap) (locs : List Loc) (ls : Array Slot), WD G DA (wX5 G h0 a0 f0 A0 ++ (wX6 G h1 a1 f1 A1 ++ (wX2 G h2 a2 f2 A2 ++ (wX1 G h3 a3 f3 A3 ++ (wB G q4 g4 aB4 fB4 AB4))))) H → va_S DA s.heap H locs → lv_has ls 6 [(0, .ref h0), (1, .ref h1), (2, .ref h2), (3, .ref h3), (4, .ref q4), (5, .int l5)] → W p l e rmX5_passes s m args below meth c H locs 0 0 (MQ below (QI G DA res.1 (wX5 G h0 a0 res.2.2.1 res.2.1 ++ (wX6 G h1 a1 res.2.2.2.2.1 res.2.2.2.1 ++ (wX2 G h2 a2 res.2.2.2.2.2.2 res.2.2.2.2.2.1 ++ (wX1 G h3 a3 f3 A3 ++ (wB G q4 g4 aB4 fB4 AB4)))))) args s 0 0 DA) (F0 m 38 ls []) := by
  obtain ⟨hx, hb, hml, hown, hts⟩ := C0.1
  have hK := C0.2.2.2.1
  intro A0 f0 A1 f1 A2 f2 l5 h _ _ _ hPD hS hl
  unfold f5_passes_b38 at h
  refine lv_iload hx hb dX5_passes_38 (lv_at hl 5 rfl) ?_
  refine lv_bipush (v := 16) hx hb dX5_passes_40 (by decide) ?_
  refine lv_icmp_ge (tgt := 84) hx hb dX5_passes_42 (by decide) (fun cc1 => ?_) (fun cc1 => ?_)
  · have h := (if_pos cc1).symm.trans h
    refine lv_aload_n hx hb dX5_passes_84 rfl (lv_at hl 1 rfl) ?_
    refine lv_dup hx hb dX5_passes_85 rfl ?_
    refine va_get (D := G.1) (ci := 6) (v := .int (f1 8)) (C := RX6) (T := TX6) (N := 10) hx hb hts inlX6 hown hK hPD.1 3 rfl rfl 8 (by decide) (hts _ gw_266) (fun _ h9 => h9) rfl dX5_passes_86 ?_
    refine lv_iconst (v := 1) hx hb dX5_passes_89 (by decide) ?_
    refine lv_iadd hx hb dX5_passes_90 ?_
    refine va_put (D := G.1) (ci := 6) (v := .int ((f1 8) + 1)) (ty := .int) (C := RX6) (T := TX6) (N := 10) hx hb hts inlX6 tyX6 tyX6_ok nmX6 hown hK hPD.1 hPD.2 hS 3 rfl rfl 8 (by decide) (hts _ gw_266) (fun _ h9 => h9) rfl (by decide +kernel) rfl rfl (Nat.le_of_ble_eq_true rfl) dX5_passes_91 (fun H locs hP hD hS => ?_)
    obtain ⟨f1_5, ef1_5, h⟩ := lvl h
    have hPD : WD G DA (wX5 G h0 a0 f0 A0 ++ (wX6 G h1 a1 f1_5 A1 ++ (wX2 G h2 a2 f2 A2 ++ (wX1 G h3 a3 f3 A3 ++ (wB G q4 g4 aB4 fB4 AB4))))) H := by rw [ef1_5]; exact ⟨hP, hD⟩
    clear ef1_5 hP hD
    refine lv_iconst (v := 1) hx hb dX5_passes_94 (by decide) ?_
    obtain rfl := Option.some.inj h
    exact eZ C0 hPD.1 hPD.2 hS rfl rfl dX5_passes_95
  · have h := (if_neg cc1).symm.trans h
    refine lv_aload_n hx hb dX5_passes_45 rfl (lv_at hl 3 rfl) ?_
    refine lv_iload hx hb dX5_passes_46 (lv_at hl 5 rfl) ?_
    refine kVI (As := [.int l5]) (rest := []) C0 (kt_X1_isTold l G h3 a3 f3 A3 l5) gi_V_X5_40_X1_isTold (n := 1) rfl (by decide +kernel) rfl ⟨rfl, rfl, Nat.le_of_ble_eq_true rfl, Nat.le_of_ble_eq_true rfl⟩ hPD hS 17 1 rfl rfl rfl [17, 18, 19, 20] [0, 1, 2, 3, 4, 5, 6, 7, 8, 9, 10, 11, 12, 13, 14, 15, 16, 21, 22, 23, 24, 25, 26, 27, 28, 29, 30, 31, 32, 33, 34, 35, 36, 37] [0, 1, 2, 3, 4, 5, 6, 7, 8, 9, 10, 11, 12, 13, 14, 15, 16, 34, 35, 36, 37, 17, 18, 19, 20, 21, 22, 23, 24, 25, 26, 27, 28, 29, 30, 31, 32, 33] (wr := (wX5 G h0 a0 f0 A0 ++ (wX6 G h1 a1 f1 A1 ++ (wX2 G h2 a2 f2 A2 ++ (wB G q4 g4 aB4 fB4 AB4))))) (wN := (wX5 G h0 a0 f0 A0 ++ (wX6 G h1 a1 f1 A1 ++ (wX2 G h2 a2 f2 A2 ++ (wX1 G h3 a3 f3 A3 ++ (wB G q4 g4 aB4 fB4 AB4)))))) rfl rfl rfl rfl rfl hl.1 (Nat.le_of_ble_eq_true rfl) dX5_passes_48 (fun H locs hPD hS => ?_)
    refine lv_if_eq (tgt := 78) hx hb dX5_passes_51 (by decide) (fun cc1 => ?_) (fun cc1 => ?_)
    · have h := (if_pos cc1).symm.trans h
      refine lv_iinc (v := l5 + 1) (lv' := [(5, .int (l5 + 1)), (0, .ref h0), (1, .ref h1), (2, .ref h2), (3, .ref h3), (4, .ref q4)]) hx hb dX5_passes_78 hl (k := 5) rfl rfl (by decide) rfl (fun ls hl => ?_)
      refine lv_goto (tgt := 38) hx hb dX5_passes_81 (by decide) ?_
      exact hk38 A0 f0 A1 f1 A2 f2 (l5 + 1) h _ _ _ hPD hS (lv_sub hl [1, 2, 3, 4, 5, 0] rfl)
    · have h := (if_neg cc1).symm.trans h
      refine lv_aload_n hx hb dX5_passes_54 rfl (lv_at hl 0 rfl) ?_
      refine lv_aload_n hx hb dX5_passes_55 rfl (lv_at hl 1 rfl) ?_
      refine lv_iload hx hb dX5_passes_56 (lv_at hl 5 rfl) ?_
      refine lv_aload_n hx hb dX5_passes_58 rfl (lv_at hl 3 rfl) ?_
      refine va_get (D := G.1) (ci := 1) (v := .ref (a3 1)) (C := RX1) (T := TX1) (N := 4) hx hb hts inlX1 hown hK hPD.1 17 rfl rfl 1 (by decide) (hts _ gw_272) (fun _ h9 => h9) rfl dX5_passes_59 ?_
      refine lv_iload hx hb dX5_passes_62 (lv_at hl 5 rfl) ?_
      refine kNI (As := [.ref (a3 1), .int l5]) (rest := [.int l5, .ref h1, .ref h0]) C0 (kt_X9_at l G (a3 1) 16 (A3 1) l5 (by decide)) gi_U_X9_at (host := "IdleCrimes") (index := 49) (List.mem_of_getElem? (i := 24) rfl) gw_6 gw_7 (n := 2) rfl (by decide +kernel) ⟨rfl, rfl, Nat.le_of_ble_eq_true rfl, Nat.le_of_ble_eq_true rfl⟩ hPD hS [18] [0, 1, 2, 3, 4, 5, 6, 7, 8, 9, 10, 11, 12, 13, 14, 15, 16, 17, 19, 20, 21, 22, 23, 24, 25, 26, 27, 28, 29, 30, 31, 32, 33, 34, 35, 36, 37] [0, 1, 2, 3, 4, 5, 6, 7, 8, 9, 10, 11, 12, 13, 14, 15, 16, 17, 37, 18, 19, 20, 21, 22, 23, 24, 25, 26, 27, 28, 29, 30, 31, 32, 33, 34, 35, 36] (wr := pick (wX5 G h0 a0 f0 A0 ++ (wX6 G h1 a1 f1 A1 ++ (wX2 G h2 a2 f2 A2 ++ (wX1 G h3 a3 f3 A3 ++ (wB G q4 g4 aB4 fB4 AB4))))) [0, 1, 2, 3, 4, 5, 6, 7, 8, 9, 10, 11, 12, 13, 14, 15, 16, 17, 19, 20, 21, 22, 23, 24, 25, 26, 27, 28, 29, 30, 31, 32, 33, 34, 35, 36, 37]) (wN := (wX5 G h0 a0 f0 A0 ++ (wX6 G h1 a1 f1 A1 ++ (wX2 G h2 a2 f2 A2 ++ (wX1 G h3 a3 f3 A3 ++ (wB G q4 g4 aB4 fB4 AB4)))))) rfl rfl rfl rfl rfl hl.1 (Nat.le_of_ble_eq_true rfl) dX5_passes_64 (fun H locs hPD hS => ?_)
      obtain ⟨q_6, hq_6, h⟩ := ob2 h
      refine kVV (As := [.ref h1, .int l5, .int (f9_at 16 (A3 1) l5)]) (rest := []) C0 (kt_X5_know l G h0 a0 h1 a1 f0 A0 f1 A1 l5 (f9_at 16 (A3 1) l5) hq_6) gi_V_X5_53_X5_know (n := 3) rfl (by decide +kernel) rfl ⟨rfl, rfl, Nat.le_of_ble_eq_true rfl, Nat.le_of_ble_eq_true rfl⟩ hPD hS 0 5 rfl rfl rfl [0, 1, 2, 3, 4, 5, 6, 7, 8] [9, 10, 11, 12, 13, 14, 15, 16, 17, 18, 19, 20, 21, 22, 23, 24, 25, 26, 27, 28, 29, 30, 31, 32, 33, 34, 35, 36, 37] [29, 30, 31, 32, 33, 34, 35, 36, 37, 0, 1, 2, 3, 4, 5, 6, 7, 8, 9, 10, 11, 12, 13, 14, 15, 16, 17, 18, 19, 20, 21, 22, 23, 24, 25, 26, 27, 28] (wr := (wX2 G h2 a2 f2 A2 ++ (wX1 G h3 a3 f3 A3 ++ (wB G q4 g4 aB4 fB4 AB4)))) (wN := (wX5 G h0 a0 f0 q_6 ++ (wX6 G h1 a1 f1 A1 ++ (wX2 G h2 a2 f2 A2 ++ (wX1 G h3 a3 f3 A3 ++ (wB G q4 g4 aB4 fB4 AB4)))))) rfl rfl rfl rfl rfl hl.1 (Nat.le_of_ble_eq_true rfl) dX5_passes_67 (fun H locs hPD hS => ?_)
      refine lv_aload_n hx hb dX5_passes_70 rfl (lv_at hl 0 rfl) ?_
      refine lv_aload_n hx hb dX5_passes_71 rfl (lv_at hl 1 rfl) ?_
      refine lv_aload_n hx hb dX5_passes_72 rfl (lv_at hl 2 rfl) ?_
      refine lv_iload hx hb dX5_passes_73 (lv_at hl 5 rfl) ?_
      obtain ⟨q_7, hq_7, h⟩ := ob2 h
      refine kVV (As := [.ref h1, .ref h2, .int l5]) (rest := []) C0 (kt_X5_tempt l G h0 a0 h1 a1 h2 a2 f0 q_6 f1 A1 f2 A2 l5 hq_7) gi_V_X5_57_X5_tempt (n := 3) rfl (by decide +kernel) rfl ⟨rfl, rfl, Nat.le_of_ble_eq_true rfl, Nat.le_of_ble_eq_true rfl⟩ hPD hS 0 5 rfl rfl rfl [0, 1, 2, 3, 4, 5, 6, 7, 8, 9, 10, 11, 12, 13, 14, 15, 16] [17, 18, 19, 20, 21, 22, 23, 24, 25, 26, 27, 28, 29, 30, 31, 32, 33, 34, 35, 36, 37] [21, 22, 23, 24, 25, 26, 27, 28, 29, 30, 31, 32, 33, 34, 35, 36, 37, 0, 1, 2, 3, 4, 5, 6, 7, 8, 9, 10, 11, 12, 13, 14, 15, 16, 17, 18, 19, 20] (wr := (wX1 G h3 a3 f3 A3 ++ (wB G q4 g4 aB4 fB4 AB4))) (wN := (wX5 G h0 a0 q_7.1 q_6 ++ (wX6 G h1 a1 q_7.2.2.1 q_7.2.1 ++ (wX2 G h2 a2 q_7.2.2.2.2 q_7.2.2.2.1 ++ (wX1 G h3 a3 f3 A3 ++ (wB G q4 g4 aB4 fB4 AB4)))))) rfl rfl rfl rfl rfl hl.1 (Nat.le_of_ble_eq_true rfl) dX5_passes_75 (fun H locs hPD hS => ?_)
      refine lv_iinc (v := l5 + 1) (lv' := [(5, .int (l5 + 1)), (0, .ref h0), (1, .ref h1), (2, .ref h2), (3, .ref h3), (4, .ref q4)]) hx hb dX5_passes_78 hl (k := 5) rfl rfl (by decide) rfl (fun ls hl => ?_)
      refine lv_goto (tgt := 38) hx hb dX5_passes_81 (by decide) ?_
      exact hk38 q_6 q_7.1 q_7.2.1 q_7.2.2.1 q_7.2.2.2.1 q_7.2.2.2.2 (l5 + 1) h _ _ _ hPD hS (lv_sub hl [1, 2, 3, 4, 5, 0] rfl)
set_option maxRecDepth 100000 in
set_option maxHeartbeats 4000000 in
theorem ww_f5_passes_l38  (C0 : Cx cX5_passes 6 (some .boolean) RX5 p s m args meth c G DA) {h0 : Nat} {a0 : Nat → Nat} {h1 : Nat} {a1 : Nat → Nat} {h2 : Nat} {a2 : Nat → Nat} {h3 : Nat} {a3 : Nat → Nat} {q4 : Nat} {g4 : Nat → Nat} {aB4 : Nat → Nat → Nat} {f3 : Nat → Int32} {A3 : Nat → Nat → Int32} {fB4 : Nat → Nat → Int32} {AB4 : Nat → Nat → Nat → Int32}   {res : Int32 × (Nat → Nat → Int32) × (Nat → Int32) × (Nat → Nat → Int32) × (Nat → Int32) × (Nat → Nat → Int32) × (Nat → Int32)}  : ∀ (n : Nat) (A0 : Nat → Nat → Int32) (f0 : Nat → Int32) (A1 : Nat → Nat → Int32) (f1 : Nat → Int32) (A2 : Nat → Nat → Int32) (f2 : Nat → Int32) (l5 : Int32), f5_passes_l38 f3 A3 fB4 AB4  n A0 f0 A1 f1 A2 f2 l5 = some res → ∀ (H : Heap) (locs : List Loc) (ls : Array Slot), WD G DA (wX5 G h0 a0 f0 A0 ++ (wX6 G h1 a1 f1 A1 ++ (wX2 G h2 a2 f2 A2 ++ (wX1 G h3 a3 f3 A3 ++ (wB G q4 g4 aB4 fB4 AB4))))) H → va_S DA s.heap H locs → lv_has ls 6 [(0, .ref h0), (1, .ref h1), (2, .ref h2), (3, .ref h3), (4, .ref q4), (5, .int l5)] → W p l e rmX5_passes s m args below meth c H locs 0 0 (MQ below (QI G DA res.1 (wX5 G h0 a0 res.2.2.1 res.2.1 ++ (wX6 G h1 a1 res.2.2.2.2.1 res.2.2.2.1 ++ (wX2 G h2 a2 res.2.2.2.2.2.2 res.2.2.2.2.2.1 ++ (wX1 G h3 a3 f3 A3 ++ (wB G q4 g4 aB4 fB4 AB4)))))) args s 0 0 DA) (F0 m 38 ls []) := by
  intro n
  induction n with
  | zero => intro A0 f0 A1 f1 A2 f2 l5 h; cases h
  | succ n ih => intro A0 f0 A1 f1 A2 f2 l5 h; exact ww_f5_passes_b38 C0  ih A0 f0 A1 f1 A2 f2 l5 h
set_option maxRecDepth 100000 in
set_option maxHeartbeats 4000000 in
theorem kt_X5_passes (l : Launch) (G : Gp) (h0 : Nat) (a0 : Nat → Nat) (h1 : Nat) (a1 : Nat → Nat) (h2 : Nat) (a2 : Nat → Nat) (h3 : Nat) (a3 : Nat → Nat) (q4 : Nat) (g4 : Nat → Nat) (aB4 : Nat → Nat → Nat) (f0 : Nat → Int32) (A0 : Nat → Nat → Int32) (f1 : Nat → Int32) (A1 : Nat → Nat → Int32) (f2 : Nat → Int32) (A2 : Nat → Nat → Int32) (f3 : Nat → Int32) (A3 : Nat → Nat → Int32) (fB4 : Nat → Nat → Int32) (AB4 : Nat → Nat → Nat → Int32) : ∀ {r : Int32 × (Nat → Nat → Int32) × (Nat → Int32) × (Nat → Nat → Int32) × (Nat → Int32) × (Nat → Nat → Int32) × (Nat → Int32)}, f5_passes f0 A0 f1 A1 f2 A2 f3 A3 fB4 AB4 = some r → CtrI l yX5_passes cX5_passes 6 (some .boolean) rmX5_passes G [.ref h0, .ref h1, .ref h2, .ref h3, .ref q4] (wX5 G h0 a0 f0 A0 ++ (wX6 G h1 a1 f1 A1 ++ (wX2 G h2 a2 f2 A2 ++ (wX1 G h3 a3 f3 A3 ++ (wB G q4 g4 aB4 fB4 AB4))))) r.1 (wX5 G h0 a0 r.2.2.1 r.2.1 ++ (wX6 G h1 a1 r.2.2.2.2.1 r.2.2.2.1 ++ (wX2 G h2 a2 r.2.2.2.2.2.2 r.2.2.2.2.2.1 ++ (wX1 G h3 a3 f3 A3 ++ (wB G q4 g4 aB4 fB4 AB4))))) := by
  intro res h
  refine ctrI_of (cc := cX5_passes) (maxL := 6) (ret := (some .boolean)) (by decide +kernel) rfl (Nat.le_of_ble_eq_true rfl) (fun p e s m below meth c DA C0 hP hD ls hl => ?_)
  have hPD : WD G DA (wX5 G h0 a0 f0 A0 ++ (wX6 G h1 a1 f1 A1 ++ (wX2 G h2 a2 f2 A2 ++ (wX1 G h3 a3 f3 A3 ++ (wB G q4 g4 aB4 fB4 AB4))))) s.heap := ⟨hP, hD⟩
  have hS : va_S DA s.heap s.heap [] := va_S.rf
  have hl : lv_has ls 6 [(0, .ref h0), (1, .ref h1), (2, .ref h2), (3, .ref h3), (4, .ref q4)] := hl
  obtain ⟨hx, hb, hml, hown, hts⟩ := C0.1
  have hK := C0.2.2.2.1
  unfold f5_passes at h
  refine lv_aload_n hx hb dX5_passes_0 rfl (lv_at hl 0 rfl) ?_
  refine lv_iconst (v := 0) hx hb dX5_passes_1 (by decide) ?_
  refine va_put (D := G.1) (ci := 5) (v := .int 0) (ty := .int) (C := RX5) (T := TX5) (N := 4) hx hb hts inlX5 tyX5 tyX5_ok nmX5 hown hK hPD.1 hPD.2 hS 0 rfl rfl 2 (by decide) (hts _ gw_300) (fun _ h9 => h9) rfl (by decide +kernel) rfl rfl (Nat.le_of_ble_eq_true rfl) dX5_passes_2 (fun H locs hP hD hS => ?_)
  obtain ⟨f0_1, ef0_1, h⟩ := lvl h
  have hPD : WD G DA (wX5 G h0 a0 f0_1 A0 ++ (wX6 G h1 a1 f1 A1 ++ (wX2 G h2 a2 f2 A2 ++ (wX1 G h3 a3 f3 A3 ++ (wB G q4 g4 aB4 fB4 AB4))))) H := by rw [ef0_1]; exact ⟨hP, hD⟩
  clear ef0_1 hP hD
  refine lv_aload_n hx hb dX5_passes_5 rfl (lv_at hl 0 rfl) ?_
  refine lv_iconst (v := 0) hx hb dX5_passes_6 (by decide) ?_
  refine va_put (D := G.1) (ci := 5) (v := .int 0) (ty := .int) (C := RX5) (T := TX5) (N := 4) hx hb hts inlX5 tyX5 tyX5_ok nmX5 hown hK hPD.1 hPD.2 hS 0 rfl rfl 3 (by decide) (hts _ gw_287) (fun _ h9 => h9) rfl (by decide +kernel) rfl rfl (Nat.le_of_ble_eq_true rfl) dX5_passes_7 (fun H locs hP hD hS => ?_)
  obtain ⟨f0_2, ef0_2, h⟩ := lvl h
  have hPD : WD G DA (wX5 G h0 a0 f0_2 A0 ++ (wX6 G h1 a1 f1 A1 ++ (wX2 G h2 a2 f2 A2 ++ (wX1 G h3 a3 f3 A3 ++ (wB G q4 g4 aB4 fB4 AB4))))) H := by rw [ef0_2]; exact ⟨hP, hD⟩
  clear ef0_2 hP hD
  refine lv_aload_n hx hb dX5_passes_10 rfl (lv_at hl 1 rfl) ?_
  refine va_get (D := G.1) (ci := 6) (v := .int (f1 8)) (C := RX6) (T := TX6) (N := 10) hx hb hts inlX6 hown hK hPD.1 3 rfl rfl 8 (by decide) (hts _ gw_266) (fun _ h9 => h9) rfl dX5_passes_11 ?_
  refine lv_sipush (v := 9999) hx hb dX5_passes_14 (by decide) ?_
  refine lv_icmp_lt (tgt := 22) hx hb dX5_passes_17 (by decide) (fun cc1 => ?_) (fun cc1 => ?_)
  · have h := (if_pos cc1).symm.trans h
    refine lv_aload_n hx hb dX5_passes_22 rfl (lv_at hl 1 rfl) ?_
    refine lv_aload_n hx hb dX5_passes_23 rfl (lv_at hl 3 rfl) ?_
    refine lv_aload hx hb dX5_passes_24 (lv_at hl 4 rfl) ?_
    obtain ⟨q_3, hq_3, h⟩ := ob2 h
    refine kSV (As := [.ref h1, .ref h3, .ref q4]) (rest := []) C0 (kt_X5_walk l G h1 a1 h3 a3 q4 g4 aB4 f1 A1 f3 A3 fB4 AB4 hq_3) gi_S_X5_32_X5_walk (n := 3) rfl (by decide +kernel) ⟨rfl, rfl, Nat.le_of_ble_eq_true rfl, Nat.le_of_ble_eq_true rfl⟩ hPD hS [3, 4, 5, 6, 7, 8, 17, 18, 19, 20, 21, 22, 23, 24, 25, 26, 27, 28, 29, 30, 31, 32, 33, 34, 35, 36, 37] [0, 1, 2, 9, 10, 11, 12, 13, 14, 15, 16] [0, 1, 2, 11, 12, 13, 14, 15, 16, 3, 4, 5, 6, 7, 8, 9, 10, 17, 18, 19, 20, 21, 22, 23, 24, 25, 26, 27, 28, 29, 30, 31, 32, 33, 34, 35, 36, 37] (wr := (wX5 G h0 a0 f0_2 A0 ++ (wX2 G h2 a2 f2 A2))) (wN := (wX5 G h0 a0 f0_2 A0 ++ (wX6 G h1 a1 f1 q_3 ++ (wX2 G h2 a2 f2 A2 ++ (wX1 G h3 a3 f3 A3 ++ (wB G q4 g4 aB4 fB4 AB4)))))) rfl rfl rfl rfl rfl hl.1 (Nat.le_of_ble_eq_true rfl) dX5_passes_26 (fun H locs hPD hS => ?_)
    refine lv_aload_n hx hb dX5_passes_29 rfl (lv_at hl 0 rfl) ?_
    refine lv_aload_n hx hb dX5_passes_30 rfl (lv_at hl 1 rfl) ?_
    refine lv_aload_n hx hb dX5_passes_31 rfl (lv_at hl 3 rfl) ?_
    obtain ⟨q_4, hq_4, h⟩ := ob2 h
    refine kVV (As := [.ref h1, .ref h3]) (rest := []) C0 (kt_X5_lookAround l G h0 a0 h1 a1 h3 a3 f0_2 A0 f1 q_3 f3 A3 hq_4) gi_V_X5_36_X5_lookAround (n := 2) rfl (by decide +kernel) rfl ⟨rfl, rfl, Nat.le_of_ble_eq_true rfl, Nat.le_of_ble_eq_true rfl⟩ hPD hS 0 5 rfl rfl rfl [0, 1, 2, 3, 4, 5, 6, 7, 8, 17, 18, 19, 20] [9, 10, 11, 12, 13, 14, 15, 16, 21, 22, 23, 24, 25, 26, 27, 28, 29, 30, 31, 32, 33, 34, 35, 36, 37] [25, 26, 27, 28, 29, 30, 31, 32, 33, 0, 1, 2, 3, 4, 5, 6, 7, 34, 35, 36, 37, 8, 9, 10, 11, 12, 13, 14, 15, 16, 17, 18, 19, 20, 21, 22, 23, 24] (wr := (wX2 G h2 a2 f2 A2 ++ (wB G q4 g4 aB4 fB4 AB4))) (wN := (wX5 G h0 a0 f0_2 q_4.1 ++ (wX6 G h1 a1 f1 q_4.2 ++ (wX2 G h2 a2 f2 A2 ++ (wX1 G h3 a3 f3 A3 ++ (wB G q4 g4 aB4 fB4 AB4)))))) rfl rfl rfl rfl rfl hl.1 (Nat.le_of_ble_eq_true rfl) dX5_passes_32 (fun H locs hPD hS => ?_)
    refine lv_iconst (v := 0) hx hb dX5_passes_35 (by decide) ?_
    refine lv_istore (lv' := [(5, .int 0), (0, .ref h0), (1, .ref h1), (2, .ref h2), (3, .ref h3), (4, .ref q4)]) hx hb dX5_passes_36 hl (by decide) rfl (fun ls hl => ?_)
    exact ww_f5_passes_l38 C0 NF q_4.1 f0_2 q_4.2 f1 A2 f2 0 h _ _ _ hPD hS (lv_sub hl [1, 2, 3, 4, 5, 0] rfl)
  · have h := (if_neg cc1).symm.trans h
    refine lv_iconst (v := 0) hx hb dX5_passes_20 (by decide) ?_
    obtain rfl := Option.some.inj h
    exact eZ C0 hPD.1 hPD.2 hS rfl rfl dX5_passes_21
abbrev rmX6_copy : Room := { frames := 1, cells := 0, slots := 0, locals := 22 }
set_option maxRecDepth 100000 in
set_option maxHeartbeats 4000000 in
theorem ww_f6_copy_b64  (C0 : Cx cX6_copy 3 none RX6 p s m args meth c G DA) {h0 : Nat} {a0 : Nat → Nat} {h1 : Nat} {a1 : Nat → Nat} {f1 : Nat → Int32} {A1 : Nat → Nat → Int32}  {k64 : (Nat → Nat → Int32) → (Nat → Int32) → Int32 → Option ((Nat → Nat → Int32) × (Nat → Int32))} {res : (Nat → Nat → Int32) × (Nat → Int32)}  (hk64 : ∀ (A0 : Nat → Nat → Int32) (f0 : Nat → Int32) (l2 : Int32), k64 A0 f0 l2 = some res → ∀ (H : Heap) (locs : List Loc) (ls : Array Slot), WD G DA (wX6 G h0 a0 f0 A0 ++ (wX6 G h1 a1 f1 A1)) H → va_S DA s.heap H locs → lv_has ls 3 [(0, .ref h0), (1, .ref h1), (2, .int l2)] → W p l e rmX6_copy s m args below meth c H locs 0 0 (MQ below (QV G DA (wX6 G h0 a0 res.2 res.1 ++ (wX6 G h1 a1 f1 A1))) args s 0 0 DA) (F0 m 64 ls [])) : ∀ (A0 : Nat → Nat → Int32) (f0 : Nat → Int32) (l2 : Int32), f6_copy_b64 f1 A1  k64 A0 f0 l2 = some res → ∀ (H : Heap) (locs : List Loc) (ls : Array Slot), WD G DA (wX6 G h0 a0 f0 A0 ++ (wX6 G h1 a1 f1 A1)) H → va_S DA s.heap H locs → lv_has ls 3 [(0, .ref h0), (1, .ref h1), (2, .int l2)] → W p l e rmX6_copy s m args below meth c H locs 0 0 (MQ below (QV G DA (wX6 G h0 a0 res.2 res.1 ++ (wX6 G h1 a1 f1 A1))) args s 0 0 DA) (F0 m 64 ls []) := by
  obtain ⟨hx, hb, hml, hown, hts⟩ := C0.1
  have hK := C0.2.2.2.1
  intro A0 f0 l2 h _ _ _ hPD hS hl
  unfold f6_copy_b64 at h
  refine lv_iload_n hx hb dX6_copy_64 rfl (lv_at hl 2 rfl) ?_
  refine lv_bipush (v := 8) hx hb dX6_copy_65 (by decide) ?_
  refine lv_icmp_ge (tgt := 108) hx hb dX6_copy_67 (by decide) (fun cc1 => ?_) (fun cc1 => ?_)
  · have h := (if_pos cc1).symm.trans h
    refine lv_aload_n hx hb dX6_copy_108 rfl (lv_at hl 0 rfl) ?_
    refine lv_aload_n hx hb dX6_copy_109 rfl (lv_at hl 1 rfl) ?_
    refine va_get (D := G.1) (ci := 6) (v := .int (f1 5)) (C := RX6) (T := TX6) (N := 10) hx hb hts inlX6 hown hK hPD.1 6 rfl rfl 5 (by decide) (hts _ gw_260) (fun _ h9 => h9) rfl dX6_copy_110 ?_
    refine va_put (D := G.1) (ci := 6) (v := .int (f1 5)) (ty := .int) (C := RX6) (T := TX6) (N := 10) hx hb hts inlX6 tyX6 tyX6_ok nmX6 hown hK hPD.1 hPD.2 hS 0 rfl rfl 5 (by decide) (hts _ gw_260) (fun _ h9 => h9) rfl (by decide +kernel) rfl rfl (Nat.le_of_ble_eq_true rfl) dX6_copy_113 (fun H locs hP hD hS => ?_)
    obtain ⟨f0_1, ef0_1, h⟩ := lvl h
    have hPD : WD G DA (wX6 G h0 a0 f0_1 A0 ++ (wX6 G h1 a1 f1 A1)) H := by rw [ef0_1]; exact ⟨hP, hD⟩
    clear ef0_1 hP hD
    refine lv_aload_n hx hb dX6_copy_116 rfl (lv_at hl 0 rfl) ?_
    refine lv_aload_n hx hb dX6_copy_117 rfl (lv_at hl 1 rfl) ?_
    refine va_get (D := G.1) (ci := 6) (v := .int (f1 6)) (C := RX6) (T := TX6) (N := 10) hx hb hts inlX6 hown hK hPD.1 6 rfl rfl 6 (by decide) (hts _ gw_322) (fun _ h9 => h9) rfl dX6_copy_118 ?_
    refine va_put (D := G.1) (ci := 6) (v := .int (f1 6)) (ty := .int) (C := RX6) (T := TX6) (N := 10) hx hb hts inlX6 tyX6 tyX6_ok nmX6 hown hK hPD.1 hPD.2 hS 0 rfl rfl 6 (by decide) (hts _ gw_322) (fun _ h9 => h9) rfl (by decide +kernel) rfl rfl (Nat.le_of_ble_eq_true rfl) dX6_copy_121 (fun H locs hP hD hS => ?_)
    obtain ⟨f0_2, ef0_2, h⟩ := lvl h
    have hPD : WD G DA (wX6 G h0 a0 f0_2 A0 ++ (wX6 G h1 a1 f1 A1)) H := by rw [ef0_2]; exact ⟨hP, hD⟩
    clear ef0_2 hP hD
    refine lv_aload_n hx hb dX6_copy_124 rfl (lv_at hl 0 rfl) ?_
    refine lv_aload_n hx hb dX6_copy_125 rfl (lv_at hl 1 rfl) ?_
    refine va_get (D := G.1) (ci := 6) (v := .int (f1 7)) (C := RX6) (T := TX6) (N := 10) hx hb hts inlX6 hown hK hPD.1 6 rfl rfl 7 (by decide) (hts _ gw_323) (fun _ h9 => h9) rfl dX6_copy_126 ?_
    refine va_put (D := G.1) (ci := 6) (v := .int (f1 7)) (ty := .int) (C := RX6) (T := TX6) (N := 10) hx hb hts inlX6 tyX6 tyX6_ok nmX6 hown hK hPD.1 hPD.2 hS 0 rfl rfl 7 (by decide) (hts _ gw_323) (fun _ h9 => h9) rfl (by decide +kernel) rfl rfl (Nat.le_of_ble_eq_true rfl) dX6_copy_129 (fun H locs hP hD hS => ?_)
    obtain ⟨f0_3, ef0_3, h⟩ := lvl h
    have hPD : WD G DA (wX6 G h0 a0 f0_3 A0 ++ (wX6 G h1 a1 f1 A1)) H := by rw [ef0_3]; exact ⟨hP, hD⟩
    clear ef0_3 hP hD
    refine lv_aload_n hx hb dX6_copy_132 rfl (lv_at hl 0 rfl) ?_
    refine lv_aload_n hx hb dX6_copy_133 rfl (lv_at hl 1 rfl) ?_
    refine va_get (D := G.1) (ci := 6) (v := .int (f1 8)) (C := RX6) (T := TX6) (N := 10) hx hb hts inlX6 hown hK hPD.1 6 rfl rfl 8 (by decide) (hts _ gw_324) (fun _ h9 => h9) rfl dX6_copy_134 ?_
    refine va_put (D := G.1) (ci := 6) (v := .int (f1 8)) (ty := .int) (C := RX6) (T := TX6) (N := 10) hx hb hts inlX6 tyX6 tyX6_ok nmX6 hown hK hPD.1 hPD.2 hS 0 rfl rfl 8 (by decide) (hts _ gw_324) (fun _ h9 => h9) rfl (by decide +kernel) rfl rfl (Nat.le_of_ble_eq_true rfl) dX6_copy_137 (fun H locs hP hD hS => ?_)
    obtain ⟨f0_4, ef0_4, h⟩ := lvl h
    have hPD : WD G DA (wX6 G h0 a0 f0_4 A0 ++ (wX6 G h1 a1 f1 A1)) H := by rw [ef0_4]; exact ⟨hP, hD⟩
    clear ef0_4 hP hD
    refine lv_aload_n hx hb dX6_copy_140 rfl (lv_at hl 0 rfl) ?_
    refine lv_aload_n hx hb dX6_copy_141 rfl (lv_at hl 1 rfl) ?_
    refine va_get (D := G.1) (ci := 6) (v := .int (f1 9)) (C := RX6) (T := TX6) (N := 10) hx hb hts inlX6 hown hK hPD.1 6 rfl rfl 9 (by decide) (hts _ gw_283) (fun _ h9 => h9) rfl dX6_copy_142 ?_
    refine va_put (D := G.1) (ci := 6) (v := .int (f1 9)) (ty := .int) (C := RX6) (T := TX6) (N := 10) hx hb hts inlX6 tyX6 tyX6_ok nmX6 hown hK hPD.1 hPD.2 hS 0 rfl rfl 9 (by decide) (hts _ gw_283) (fun _ h9 => h9) rfl (by decide +kernel) rfl rfl (Nat.le_of_ble_eq_true rfl) dX6_copy_145 (fun H locs hP hD hS => ?_)
    obtain ⟨f0_5, ef0_5, h⟩ := lvl h
    have hPD : WD G DA (wX6 G h0 a0 f0_5 A0 ++ (wX6 G h1 a1 f1 A1)) H := by rw [ef0_5]; exact ⟨hP, hD⟩
    clear ef0_5 hP hD
    obtain rfl := Option.some.inj h
    exact eV C0 hPD.1 hPD.2 hS dX6_copy_148
  · have h := (if_neg cc1).symm.trans h
    refine lv_aload_n hx hb dX6_copy_70 rfl (lv_at hl 0 rfl) ?_
    refine va_get (D := G.1) (ci := 6) (v := .ref (a0 3)) (C := RX6) (T := TX6) (N := 10) hx hb hts inlX6 hown hK hPD.1 0 rfl rfl 3 (by decide) (hts _ gw_325) (fun _ h9 => h9) rfl dX6_copy_71 ?_
    refine lv_iload_n hx hb dX6_copy_74 rfl (lv_at hl 2 rfl) ?_
    refine lv_aload_n hx hb dX6_copy_75 rfl (lv_at hl 1 rfl) ?_
    refine va_get (D := G.1) (ci := 6) (v := .ref (a1 3)) (C := RX6) (T := TX6) (N := 10) hx hb hts inlX6 hown hK hPD.1 6 rfl rfl 3 (by decide) (hts _ gw_325) (fun _ h9 => h9) rfl dX6_copy_76 ?_
    refine lv_iload_n hx hb dX6_copy_79 rfl (lv_at hl 2 rfl) ?_
    refine kNI (As := [.ref (a1 3), .int l2]) (rest := [.int l2, .ref (a0 3)]) C0 (kt_X9_at l G (a1 3) 8 (A1 3) l2 (by decide)) gi_U_X9_at (host := "IdleCrimes") (index := 43) (List.mem_of_getElem? (i := 30) rfl) gw_6 gw_7 (n := 2) rfl (by decide +kernel) ⟨rfl, rfl, Nat.le_of_ble_eq_true rfl, Nat.le_of_ble_eq_true rfl⟩ hPD hS [10] [0, 1, 2, 3, 4, 5, 6, 7, 8, 9, 11] [0, 1, 2, 3, 4, 5, 6, 7, 8, 9, 11, 10] (wr := pick (wX6 G h0 a0 f0 A0 ++ (wX6 G h1 a1 f1 A1)) [0, 1, 2, 3, 4, 5, 6, 7, 8, 9, 11]) (wN := (wX6 G h0 a0 f0 A0 ++ (wX6 G h1 a1 f1 A1))) rfl rfl rfl rfl rfl hl.1 (Nat.le_of_ble_eq_true rfl) dX6_copy_80 (fun H locs hPD hS => ?_)
    obtain ⟨z_6, ez_6, h⟩ := lvl h
    have kc := kt_X9_put l G (a0 3) 8 (A0 3) l2 (f9_at 8 (A1 3) l2) (by decide)
    rw [← ez_6] at kc
    clear ez_6
    refine kNV (As := [.ref (a0 3), .int l2, .int (f9_at 8 (A1 3) l2)]) (rest := []) C0 (kc) gi_U_X9_put (host := "IdleCrimes") (index := 47) (List.mem_of_getElem? (i := 31) rfl) gw_6 gw_19 (n := 3) rfl (by decide +kernel) ⟨rfl, rfl, Nat.le_of_ble_eq_true rfl, Nat.le_of_ble_eq_true rfl⟩ hPD hS [4] [0, 1, 2, 3, 5, 6, 7, 8, 9, 10, 11] [0, 1, 2, 3, 11, 4, 5, 6, 7, 8, 9, 10] (wr := pick (wX6 G h0 a0 f0 A0 ++ (wX6 G h1 a1 f1 A1)) [0, 1, 2, 3, 5, 6, 7, 8, 9, 10, 11]) (wN := (wX6 G h0 a0 f0 (updA A0 3 z_6) ++ (wX6 G h1 a1 f1 A1))) rfl rfl rfl rfl rfl hl.1 (Nat.le_of_ble_eq_true rfl) dX6_copy_83 (fun H locs hPD hS => ?_)
    obtain ⟨A0_7, eA0_7, h⟩ := lvl h
    have hPD : WD G DA (wX6 G h0 a0 f0 A0_7 ++ (wX6 G h1 a1 f1 A1)) H := by rw [eA0_7]; exact hPD
    clear eA0_7
    refine lv_aload_n hx hb dX6_copy_86 rfl (lv_at hl 0 rfl) ?_
    refine va_get (D := G.1) (ci := 6) (v := .ref (a0 4)) (C := RX6) (T := TX6) (N := 10) hx hb hts inlX6 hown hK hPD.1 0 rfl rfl 4 (by decide) (hts _ gw_326) (fun _ h9 => h9) rfl dX6_copy_87 ?_
    refine lv_iload_n hx hb dX6_copy_90 rfl (lv_at hl 2 rfl) ?_
    refine lv_aload_n hx hb dX6_copy_91 rfl (lv_at hl 1 rfl) ?_
    refine va_get (D := G.1) (ci := 6) (v := .ref (a1 4)) (C := RX6) (T := TX6) (N := 10) hx hb hts inlX6 hown hK hPD.1 6 rfl rfl 4 (by decide) (hts _ gw_326) (fun _ h9 => h9) rfl dX6_copy_92 ?_
    refine lv_iload_n hx hb dX6_copy_95 rfl (lv_at hl 2 rfl) ?_
    refine kNI (As := [.ref (a1 4), .int l2]) (rest := [.int l2, .ref (a0 4)]) C0 (kt_X9_at l G (a1 4) 8 (A1 4) l2 (by decide)) gi_U_X9_at (host := "IdleCrimes") (index := 43) (List.mem_of_getElem? (i := 30) rfl) gw_6 gw_7 (n := 2) rfl (by decide +kernel) ⟨rfl, rfl, Nat.le_of_ble_eq_true rfl, Nat.le_of_ble_eq_true rfl⟩ hPD hS [11] [0, 1, 2, 3, 4, 5, 6, 7, 8, 9, 10] [0, 1, 2, 3, 4, 5, 6, 7, 8, 9, 10, 11] (wr := pick (wX6 G h0 a0 f0 A0_7 ++ (wX6 G h1 a1 f1 A1)) [0, 1, 2, 3, 4, 5, 6, 7, 8, 9, 10]) (wN := (wX6 G h0 a0 f0 A0_7 ++ (wX6 G h1 a1 f1 A1))) rfl rfl rfl rfl rfl hl.1 (Nat.le_of_ble_eq_true rfl) dX6_copy_96 (fun H locs hPD hS => ?_)
    obtain ⟨z_8, ez_8, h⟩ := lvl h
    have kc := kt_X9_put l G (a0 4) 8 (A0_7 4) l2 (f9_at 8 (A1 4) l2) (by decide)
    rw [← ez_8] at kc
    clear ez_8
    refine kNV (As := [.ref (a0 4), .int l2, .int (f9_at 8 (A1 4) l2)]) (rest := []) C0 (kc) gi_U_X9_put (host := "IdleCrimes") (index := 47) (List.mem_of_getElem? (i := 31) rfl) gw_6 gw_19 (n := 3) rfl (by decide +kernel) ⟨rfl, rfl, Nat.le_of_ble_eq_true rfl, Nat.le_of_ble_eq_true rfl⟩ hPD hS [5] [0, 1, 2, 3, 4, 6, 7, 8, 9, 10, 11] [0, 1, 2, 3, 4, 11, 5, 6, 7, 8, 9, 10] (wr := pick (wX6 G h0 a0 f0 A0_7 ++ (wX6 G h1 a1 f1 A1)) [0, 1, 2, 3, 4, 6, 7, 8, 9, 10, 11]) (wN := (wX6 G h0 a0 f0 (updA A0_7 4 z_8) ++ (wX6 G h1 a1 f1 A1))) rfl rfl rfl rfl rfl hl.1 (Nat.le_of_ble_eq_true rfl) dX6_copy_99 (fun H locs hPD hS => ?_)
    obtain ⟨A0_9, eA0_9, h⟩ := lvl h
    have hPD : WD G DA (wX6 G h0 a0 f0 A0_9 ++ (wX6 G h1 a1 f1 A1)) H := by rw [eA0_9]; exact hPD
    clear eA0_9
    refine lv_iinc (v := l2 + 1) (lv' := [(2, .int (l2 + 1)), (0, .ref h0), (1, .ref h1)]) hx hb dX6_copy_102 hl (k := 2) rfl rfl (by decide) rfl (fun ls hl => ?_)
    refine lv_goto (tgt := 64) hx hb dX6_copy_105 (by decide) ?_
    exact hk64 A0_9 f0 (l2 + 1) h _ _ _ hPD hS (lv_sub hl [1, 2, 0] rfl)
set_option maxRecDepth 100000 in
set_option maxHeartbeats 4000000 in
theorem ww_f6_copy_l64  (C0 : Cx cX6_copy 3 none RX6 p s m args meth c G DA) {h0 : Nat} {a0 : Nat → Nat} {h1 : Nat} {a1 : Nat → Nat} {f1 : Nat → Int32} {A1 : Nat → Nat → Int32}   {res : (Nat → Nat → Int32) × (Nat → Int32)}  : ∀ (n : Nat) (A0 : Nat → Nat → Int32) (f0 : Nat → Int32) (l2 : Int32), f6_copy_l64 f1 A1  n A0 f0 l2 = some res → ∀ (H : Heap) (locs : List Loc) (ls : Array Slot), WD G DA (wX6 G h0 a0 f0 A0 ++ (wX6 G h1 a1 f1 A1)) H → va_S DA s.heap H locs → lv_has ls 3 [(0, .ref h0), (1, .ref h1), (2, .int l2)] → W p l e rmX6_copy s m args below meth c H locs 0 0 (MQ below (QV G DA (wX6 G h0 a0 res.2 res.1 ++ (wX6 G h1 a1 f1 A1))) args s 0 0 DA) (F0 m 64 ls []) := by
  intro n
  induction n with
  | zero => intro A0 f0 l2 h; cases h
  | succ n ih => intro A0 f0 l2 h; exact ww_f6_copy_b64 C0  ih A0 f0 l2 h
set_option maxRecDepth 100000 in
set_option maxHeartbeats 4000000 in
theorem ww_f6_copy_b2  (C0 : Cx cX6_copy 3 none RX6 p s m args meth c G DA) {h0 : Nat} {a0 : Nat → Nat} {h1 : Nat} {a1 : Nat → Nat} {f1 : Nat → Int32} {A1 : Nat → Nat → Int32}  {k2 : (Nat → Nat → Int32) → (Nat → Int32) → Int32 → Option ((Nat → Nat → Int32) × (Nat → Int32))} {res : (Nat → Nat → Int32) × (Nat → Int32)}  (hk2 : ∀ (A0 : Nat → Nat → Int32) (f0 : Nat → Int32) (l2 : Int32), k2 A0 f0 l2 = some res → ∀ (H : Heap) (locs : List Loc) (ls : Array Slot), WD G DA (wX6 G h0 a0 f0 A0 ++ (wX6 G h1 a1 f1 A1)) H → va_S DA s.heap H locs → lv_has ls 3 [(0, .ref h0), (1, .ref h1), (2, .int l2)] → W p l e rmX6_copy s m args below meth c H locs 0 0 (MQ below (QV G DA (wX6 G h0 a0 res.2 res.1 ++ (wX6 G h1 a1 f1 A1))) args s 0 0 DA) (F0 m 2 ls [])) : ∀ (A0 : Nat → Nat → Int32) (f0 : Nat → Int32) (l2 : Int32), f6_copy_b2 f1 A1  k2 A0 f0 l2 = some res → ∀ (H : Heap) (locs : List Loc) (ls : Array Slot), WD G DA (wX6 G h0 a0 f0 A0 ++ (wX6 G h1 a1 f1 A1)) H → va_S DA s.heap H locs → lv_has ls 3 [(0, .ref h0), (1, .ref h1), (2, .int l2)] → W p l e rmX6_copy s m args below meth c H locs 0 0 (MQ below (QV G DA (wX6 G h0 a0 res.2 res.1 ++ (wX6 G h1 a1 f1 A1))) args s 0 0 DA) (F0 m 2 ls []) := by
  obtain ⟨hx, hb, hml, hown, hts⟩ := C0.1
  have hK := C0.2.2.2.1
  intro A0 f0 l2 h _ _ _ hPD hS hl
  unfold f6_copy_b2 at h
  refine lv_iload_n hx hb dX6_copy_2 rfl (lv_at hl 2 rfl) ?_
  refine lv_bipush (v := 16) hx hb dX6_copy_3 (by decide) ?_
  refine lv_icmp_ge (tgt := 62) hx hb dX6_copy_5 (by decide) (fun cc1 => ?_) (fun cc1 => ?_)
  · have h := (if_pos cc1).symm.trans h
    refine lv_iconst (v := 0) hx hb dX6_copy_62 (by decide) ?_
    refine lv_istore_n (lv' := [(2, .int 0), (0, .ref h0), (1, .ref h1)]) hx hb dX6_copy_63 rfl hl (by decide) rfl (fun ls hl => ?_)
    exact ww_f6_copy_l64 C0 NF A0 f0 0 h _ _ _ hPD hS (lv_sub hl [1, 2, 0] rfl)
  · have h := (if_neg cc1).symm.trans h
    refine lv_aload_n hx hb dX6_copy_8 rfl (lv_at hl 0 rfl) ?_
    refine va_get (D := G.1) (ci := 6) (v := .ref (a0 0)) (C := RX6) (T := TX6) (N := 10) hx hb hts inlX6 hown hK hPD.1 0 rfl rfl 0 (by decide) (hts _ gw_327) (fun _ h9 => h9) rfl dX6_copy_9 ?_
    refine lv_iload_n hx hb dX6_copy_12 rfl (lv_at hl 2 rfl) ?_
    refine lv_aload_n hx hb dX6_copy_13 rfl (lv_at hl 1 rfl) ?_
    refine va_get (D := G.1) (ci := 6) (v := .ref (a1 0)) (C := RX6) (T := TX6) (N := 10) hx hb hts inlX6 hown hK hPD.1 6 rfl rfl 0 (by decide) (hts _ gw_327) (fun _ h9 => h9) rfl dX6_copy_14 ?_
    refine lv_iload_n hx hb dX6_copy_17 rfl (lv_at hl 2 rfl) ?_
    refine kNI (As := [.ref (a1 0), .int l2]) (rest := [.int l2, .ref (a0 0)]) C0 (kt_X9_at l G (a1 0) 16 (A1 0) l2 (by decide)) gi_U_X9_at (host := "IdleCrimes") (index := 43) (List.mem_of_getElem? (i := 30) rfl) gw_6 gw_7 (n := 2) rfl (by decide +kernel) ⟨rfl, rfl, Nat.le_of_ble_eq_true rfl, Nat.le_of_ble_eq_true rfl⟩ hPD hS [7] [0, 1, 2, 3, 4, 5, 6, 8, 9, 10, 11] [0, 1, 2, 3, 4, 5, 6, 11, 7, 8, 9, 10] (wr := pick (wX6 G h0 a0 f0 A0 ++ (wX6 G h1 a1 f1 A1)) [0, 1, 2, 3, 4, 5, 6, 8, 9, 10, 11]) (wN := (wX6 G h0 a0 f0 A0 ++ (wX6 G h1 a1 f1 A1))) rfl rfl rfl rfl rfl hl.1 (Nat.le_of_ble_eq_true rfl) dX6_copy_18 (fun H locs hPD hS => ?_)
    obtain ⟨z_10, ez_10, h⟩ := lvl h
    have kc := kt_X9_put l G (a0 0) 16 (A0 0) l2 (f9_at 16 (A1 0) l2) (by decide)
    rw [← ez_10] at kc
    clear ez_10
    refine kNV (As := [.ref (a0 0), .int l2, .int (f9_at 16 (A1 0) l2)]) (rest := []) C0 (kc) gi_U_X9_put (host := "IdleCrimes") (index := 47) (List.mem_of_getElem? (i := 31) rfl) gw_6 gw_19 (n := 3) rfl (by decide +kernel) ⟨rfl, rfl, Nat.le_of_ble_eq_true rfl, Nat.le_of_ble_eq_true rfl⟩ hPD hS [1] [0, 2, 3, 4, 5, 6, 7, 8, 9, 10, 11] [0, 11, 1, 2, 3, 4, 5, 6, 7, 8, 9, 10] (wr := pick (wX6 G h0 a0 f0 A0 ++ (wX6 G h1 a1 f1 A1)) [0, 2, 3, 4, 5, 6, 7, 8, 9, 10, 11]) (wN := (wX6 G h0 a0 f0 (updA A0 0 z_10) ++ (wX6 G h1 a1 f1 A1))) rfl rfl rfl rfl rfl hl.1 (Nat.le_of_ble_eq_true rfl) dX6_copy_21 (fun H locs hPD hS => ?_)
    obtain ⟨A0_11, eA0_11, h⟩ := lvl h
    have hPD : WD G DA (wX6 G h0 a0 f0 A0_11 ++ (wX6 G h1 a1 f1 A1)) H := by rw [eA0_11]; exact hPD
    clear eA0_11
    refine lv_aload_n hx hb dX6_copy_24 rfl (lv_at hl 0 rfl) ?_
    refine va_get (D := G.1) (ci := 6) (v := .ref (a0 1)) (C := RX6) (T := TX6) (N := 10) hx hb hts inlX6 hown hK hPD.1 0 rfl rfl 1 (by decide) (hts _ gw_328) (fun _ h9 => h9) rfl dX6_copy_25 ?_
    refine lv_iload_n hx hb dX6_copy_28 rfl (lv_at hl 2 rfl) ?_
    refine lv_aload_n hx hb dX6_copy_29 rfl (lv_at hl 1 rfl) ?_
    refine va_get (D := G.1) (ci := 6) (v := .ref (a1 1)) (C := RX6) (T := TX6) (N := 10) hx hb hts inlX6 hown hK hPD.1 6 rfl rfl 1 (by decide) (hts _ gw_328) (fun _ h9 => h9) rfl dX6_copy_30 ?_
    refine lv_iload_n hx hb dX6_copy_33 rfl (lv_at hl 2 rfl) ?_
    refine kNI (As := [.ref (a1 1), .int l2]) (rest := [.int l2, .ref (a0 1)]) C0 (kt_X9_at l G (a1 1) 16 (A1 1) l2 (by decide)) gi_U_X9_at (host := "IdleCrimes") (index := 43) (List.mem_of_getElem? (i := 30) rfl) gw_6 gw_7 (n := 2) rfl (by decide +kernel) ⟨rfl, rfl, Nat.le_of_ble_eq_true rfl, Nat.le_of_ble_eq_true rfl⟩ hPD hS [8] [0, 1, 2, 3, 4, 5, 6, 7, 9, 10, 11] [0, 1, 2, 3, 4, 5, 6, 7, 11, 8, 9, 10] (wr := pick (wX6 G h0 a0 f0 A0_11 ++ (wX6 G h1 a1 f1 A1)) [0, 1, 2, 3, 4, 5, 6, 7, 9, 10, 11]) (wN := (wX6 G h0 a0 f0 A0_11 ++ (wX6 G h1 a1 f1 A1))) rfl rfl rfl rfl rfl hl.1 (Nat.le_of_ble_eq_true rfl) dX6_copy_34 (fun H locs hPD hS => ?_)
    obtain ⟨z_12, ez_12, h⟩ := lvl h
    have kc := kt_X9_put l G (a0 1) 16 (A0_11 1) l2 (f9_at 16 (A1 1) l2) (by decide)
    rw [← ez_12] at kc
    clear ez_12
    refine kNV (As := [.ref (a0 1), .int l2, .int (f9_at 16 (A1 1) l2)]) (rest := []) C0 (kc) gi_U_X9_put (host := "IdleCrimes") (index := 47) (List.mem_of_getElem? (i := 31) rfl) gw_6 gw_19 (n := 3) rfl (by decide +kernel) ⟨rfl, rfl, Nat.le_of_ble_eq_true rfl, Nat.le_of_ble_eq_true rfl⟩ hPD hS [2] [0, 1, 3, 4, 5, 6, 7, 8, 9, 10, 11] [0, 1, 11, 2, 3, 4, 5, 6, 7, 8, 9, 10] (wr := pick (wX6 G h0 a0 f0 A0_11 ++ (wX6 G h1 a1 f1 A1)) [0, 1, 3, 4, 5, 6, 7, 8, 9, 10, 11]) (wN := (wX6 G h0 a0 f0 (updA A0_11 1 z_12) ++ (wX6 G h1 a1 f1 A1))) rfl rfl rfl rfl rfl hl.1 (Nat.le_of_ble_eq_true rfl) dX6_copy_37 (fun H locs hPD hS => ?_)
    obtain ⟨A0_13, eA0_13, h⟩ := lvl h
    have hPD : WD G DA (wX6 G h0 a0 f0 A0_13 ++ (wX6 G h1 a1 f1 A1)) H := by rw [eA0_13]; exact hPD
    clear eA0_13
    refine lv_aload_n hx hb dX6_copy_40 rfl (lv_at hl 0 rfl) ?_
    refine va_get (D := G.1) (ci := 6) (v := .ref (a0 2)) (C := RX6) (T := TX6) (N := 10) hx hb hts inlX6 hown hK hPD.1 0 rfl rfl 2 (by decide) (hts _ gw_329) (fun _ h9 => h9) rfl dX6_copy_41 ?_
    refine lv_iload_n hx hb dX6_copy_44 rfl (lv_at hl 2 rfl) ?_
    refine lv_aload_n hx hb dX6_copy_45 rfl (lv_at hl 1 rfl) ?_
    refine va_get (D := G.1) (ci := 6) (v := .ref (a1 2)) (C := RX6) (T := TX6) (N := 10) hx hb hts inlX6 hown hK hPD.1 6 rfl rfl 2 (by decide) (hts _ gw_329) (fun _ h9 => h9) rfl dX6_copy_46 ?_
    refine lv_iload_n hx hb dX6_copy_49 rfl (lv_at hl 2 rfl) ?_
    refine kNI (As := [.ref (a1 2), .int l2]) (rest := [.int l2, .ref (a0 2)]) C0 (kt_X9_at l G (a1 2) 16 (A1 2) l2 (by decide)) gi_U_X9_at (host := "IdleCrimes") (index := 43) (List.mem_of_getElem? (i := 30) rfl) gw_6 gw_7 (n := 2) rfl (by decide +kernel) ⟨rfl, rfl, Nat.le_of_ble_eq_true rfl, Nat.le_of_ble_eq_true rfl⟩ hPD hS [9] [0, 1, 2, 3, 4, 5, 6, 7, 8, 10, 11] [0, 1, 2, 3, 4, 5, 6, 7, 8, 11, 9, 10] (wr := pick (wX6 G h0 a0 f0 A0_13 ++ (wX6 G h1 a1 f1 A1)) [0, 1, 2, 3, 4, 5, 6, 7, 8, 10, 11]) (wN := (wX6 G h0 a0 f0 A0_13 ++ (wX6 G h1 a1 f1 A1))) rfl rfl rfl rfl rfl hl.1 (Nat.le_of_ble_eq_true rfl) dX6_copy_50 (fun H locs hPD hS => ?_)
    obtain ⟨z_14, ez_14, h⟩ := lvl h
    have kc := kt_X9_put l G (a0 2) 16 (A0_13 2) l2 (f9_at 16 (A1 2) l2) (by decide)
    rw [← ez_14] at kc
    clear ez_14
    refine kNV (As := [.ref (a0 2), .int l2, .int (f9_at 16 (A1 2) l2)]) (rest := []) C0 (kc) gi_U_X9_put (host := "IdleCrimes") (index := 47) (List.mem_of_getElem? (i := 31) rfl) gw_6 gw_19 (n := 3) rfl (by decide +kernel) ⟨rfl, rfl, Nat.le_of_ble_eq_true rfl, Nat.le_of_ble_eq_true rfl⟩ hPD hS [3] [0, 1, 2, 4, 5, 6, 7, 8, 9, 10, 11] [0, 1, 2, 11, 3, 4, 5, 6, 7, 8, 9, 10] (wr := pick (wX6 G h0 a0 f0 A0_13 ++ (wX6 G h1 a1 f1 A1)) [0, 1, 2, 4, 5, 6, 7, 8, 9, 10, 11]) (wN := (wX6 G h0 a0 f0 (updA A0_13 2 z_14) ++ (wX6 G h1 a1 f1 A1))) rfl rfl rfl rfl rfl hl.1 (Nat.le_of_ble_eq_true rfl) dX6_copy_53 (fun H locs hPD hS => ?_)
    obtain ⟨A0_15, eA0_15, h⟩ := lvl h
    have hPD : WD G DA (wX6 G h0 a0 f0 A0_15 ++ (wX6 G h1 a1 f1 A1)) H := by rw [eA0_15]; exact hPD
    clear eA0_15
    refine lv_iinc (v := l2 + 1) (lv' := [(2, .int (l2 + 1)), (0, .ref h0), (1, .ref h1)]) hx hb dX6_copy_56 hl (k := 2) rfl rfl (by decide) rfl (fun ls hl => ?_)
    refine lv_goto (tgt := 2) hx hb dX6_copy_59 (by decide) ?_
    exact hk2 A0_15 f0 (l2 + 1) h _ _ _ hPD hS (lv_sub hl [1, 2, 0] rfl)
end WALK
