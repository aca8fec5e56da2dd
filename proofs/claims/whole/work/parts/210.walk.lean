section WALK
variable {p : Program} {l : Launch} {e : Env} {s : State} {m : MethodId} {args : Array Value} {below : List Frame} {meth : Method} {c : Code} {G : Gp} {DA : Nat → Prop}
set_option maxRecDepth 100000 in
set_option maxHeartbeats 4000000 in
theorem ww_f3_line_b52  (C0 : Cx cX3_line 6 none RX3 p s m args meth c G DA) {h0 : Nat} {a0 : Nat → Nat} {h1 : Nat} {a1 : Nat → Nat} {h2 : Nat} {a2 : Nat → Nat} {A1 : Nat → Nat → Int32} {f2 : Nat → Int32} {A2 : Nat → Nat → Int32}   {res : (Nat → Nat → Int32) × (Nat → Int32) × (Nat → Int32)}  : ∀ (A0 : Nat → Nat → Int32) (f0 : Nat → Int32) (f1 : Nat → Int32) (l3 : Int32), f3_line_b52 A1 f2 A2  A0 f0 f1 l3 = some res → ∀ (H : Heap) (locs : List Loc) (ls : Array Slot), WD G DA (wX3 G h0 a0 f0 A0 ++ (wX7 G h1 a1 f1 A1 ++ (wX1 G h2 a2 f2 A2))) H → va_S DA s.heap H locs → lv_has ls 6 [(0, .ref h0), (1, .ref h1), (2, .ref h2), (3, .int l3)] → W p l e rmX3_line s m args below meth c H locs 0 0 (MQ below (QV G DA (wX3 G h0 a0 res.2.1 res.1 ++ (wX7 G h1 a1 res.2.2 A1 ++ (wX1 G h2 a2 f2 A2)))) args s 0 0 DA) (F0 m 52 ls []) := by
  obtain ⟨hx, hb, hml, hown, hts⟩ := C0.1
  have hK := C0.2.2.2.1
  intro A0 f0 f1 l3 h _ _ _ hPD hS hl
  unfold f3_line_b52 at h
  refine lv_aload_n hx hb dX3_line_52 rfl (lv_at hl 1 rfl) ?_
  refine kVI (As := []) (rest := []) C0 (kt_X7_isFine l G h1 a1 f1 A1) gi_V_X3_53_X7_isFine (n := 0) rfl (by decide +kernel) rfl ⟨rfl, rfl, Nat.le_of_ble_eq_true rfl, Nat.le_of_ble_eq_true rfl⟩ hPD hS 4 7 rfl rfl rfl [4, 5] [0, 1, 2, 3, 6, 7, 8, 9] [0, 1, 2, 3, 8, 9, 4, 5, 6, 7] (wr := (wX3 G h0 a0 f0 A0 ++ (wX1 G h2 a2 f2 A2))) (wN := (wX3 G h0 a0 f0 A0 ++ (wX7 G h1 a1 f1 A1 ++ (wX1 G h2 a2 f2 A2)))) rfl rfl rfl rfl rfl hl.1 (Nat.le_of_ble_eq_true rfl) dX3_line_53 (fun H locs hPD hS => ?_)
  refine lv_if_ne (tgt := 60) hx hb dX3_line_56 (by decide) (fun cc1 => ?_) (fun cc1 => ?_)
  · have h := (if_neg cc1).symm.trans h
    refine lv_aload_n hx hb dX3_line_60 rfl (lv_at hl 1 rfl) ?_
    obtain ⟨z_1, ez_1, h⟩ := lvl h
    have kc := kt_X7_step l G h1 a1 f1 A1
    rw [← ez_1] at kc
    clear ez_1
    refine kVV (As := []) (rest := []) C0 (kc) gi_V_X3_56_X7_step (n := 0) rfl (by decide +kernel) rfl ⟨rfl, rfl, Nat.le_of_ble_eq_true rfl, Nat.le_of_ble_eq_true rfl⟩ hPD hS 4 7 rfl rfl rfl [4, 5] [0, 1, 2, 3, 6, 7, 8, 9] [0, 1, 2, 3, 8, 9, 4, 5, 6, 7] (wr := (wX3 G h0 a0 f0 A0 ++ (wX1 G h2 a2 f2 A2))) (wN := (wX3 G h0 a0 f0 A0 ++ (wX7 G h1 a1 z_1 A1 ++ (wX1 G h2 a2 f2 A2)))) rfl rfl rfl rfl rfl hl.1 (Nat.le_of_ble_eq_true rfl) dX3_line_61 (fun H locs hPD hS => ?_)
    refine lv_aload_n hx hb dX3_line_64 rfl (lv_at hl 1 rfl) ?_
    refine kVI (As := []) (rest := []) C0 (kt_X7_look l G h1 a1 z_1 A1) gi_V_X3_35_X7_look (n := 0) rfl (by decide +kernel) rfl ⟨rfl, rfl, Nat.le_of_ble_eq_true rfl, Nat.le_of_ble_eq_true rfl⟩ hPD hS 4 7 rfl rfl rfl [4, 5] [0, 1, 2, 3, 6, 7, 8, 9] [0, 1, 2, 3, 8, 9, 4, 5, 6, 7] (wr := (wX3 G h0 a0 f0 A0 ++ (wX1 G h2 a2 f2 A2))) (wN := (wX3 G h0 a0 f0 A0 ++ (wX7 G h1 a1 z_1 A1 ++ (wX1 G h2 a2 f2 A2)))) rfl rfl rfl rfl rfl hl.1 (Nat.le_of_ble_eq_true rfl) dX3_line_65 (fun H locs hPD hS => ?_)
    refine lv_istore (lv' := [(4, .int (f7_look z_1 A1)), (0, .ref h0), (1, .ref h1), (2, .ref h2), (3, .int l3)]) hx hb dX3_line_68 hl (by decide) rfl (fun ls hl => ?_)
    refine lv_iload hx hb dX3_line_70 (lv_at hl 0 rfl) ?_
    refine kSI (As := [.int (f7_look z_1 A1)]) (rest := []) C0 (kt_X3_isSign l G  (f7_look z_1 A1)) gi_S_X3_59_X3_isSign (n := 1) rfl (by decide +kernel) ⟨rfl, rfl, Nat.le_of_ble_eq_true rfl, Nat.le_of_ble_eq_true rfl⟩ hPD hS [] [0, 1, 2, 3, 4, 5, 6, 7, 8, 9] [0, 1, 2, 3, 4, 5, 6, 7, 8, 9] (wr := (wX3 G h0 a0 f0 A0 ++ (wX7 G h1 a1 z_1 A1 ++ (wX1 G h2 a2 f2 A2)))) (wN := (wX3 G h0 a0 f0 A0 ++ (wX7 G h1 a1 z_1 A1 ++ (wX1 G h2 a2 f2 A2)))) rfl rfl rfl rfl rfl hl.1 (Nat.le_of_ble_eq_true rfl) dX3_line_72 (fun H locs hPD hS => ?_)
    refine lv_if_ne (tgt := 84) hx hb dX3_line_75 (by decide) (fun cc1 => ?_) (fun cc1 => ?_)
    · have h := (if_neg cc1).symm.trans h
      refine lv_aload_n hx hb dX3_line_84 rfl (lv_at hl 2 rfl) ?_
      obtain ⟨z_2, ez_2, h⟩ := lvl h
      have kc := kt_X7_step l G h1 a1 z_1 A1
      rw [← ez_2] at kc
      clear ez_2
      refine kVV (As := []) (rest := []) C0 (kc) gi_V_X3_56_X7_step (n := 0) rfl (by decide +kernel) rfl ⟨rfl, rfl, Nat.le_of_ble_eq_true rfl, Nat.le_of_ble_eq_true rfl⟩ hPD hS 4 7 rfl rfl rfl [4, 5] [0, 1, 2, 3, 6, 7, 8, 9] [0, 1, 2, 3, 8, 9, 4, 5, 6, 7] (wr := (wX3 G h0 a0 f0 A0 ++ (wX1 G h2 a2 f2 A2))) (wN := (wX3 G h0 a0 f0 A0 ++ (wX7 G h1 a1 z_2 A1 ++ (wX1 G h2 a2 f2 A2)))) rfl rfl rfl rfl rfl hl.1 (Nat.le_of_ble_eq_true rfl) dX3_line_85 (fun H locs hPD hS => ?_)
      refine lv_iload hx hb dX3_line_88 (lv_at hl 0 rfl) ?_
      refine lv_bipush (v := 38) hx hb dX3_line_90 (by decide) ?_
      refine lv_icmp_eq (tgt := 102) hx hb dX3_line_92 (by decide) (fun cc1 => ?_) (fun cc1 => ?_)
      · have h := (if_pos cc1).symm.trans h
        exact ww_f3_line_b102 C0 A0 f0 z_2 l3 (f7_look z_1 A1) h _ _ _ hPD hS (lv_sub hl [1, 2, 3, 4, 0] rfl)
      · have h := (if_neg cc1).symm.trans h
        refine lv_iload hx hb dX3_line_95 (lv_at hl 0 rfl) ?_
        refine lv_bipush (v := 47) hx hb dX3_line_97 (by decide) ?_
        refine lv_icmp_ne (tgt := 111) hx hb dX3_line_99 (by decide) (fun cc1 => ?_) (fun cc1 => ?_)
        · have h := (if_neg cc1).symm.trans h
          refine lv_aload_n hx hb dX3_line_111 rfl (lv_at hl 2 rfl) ?_
          refine lv_iload hx hb dX3_line_112 (lv_at hl 0 rfl) ?_
          refine lv_bipush (v := 61) hx hb dX3_line_114 (by decide) ?_
          refine lv_icmp_ne (tgt := 123) hx hb dX3_line_116 (by decide) (fun cc1 => ?_) (fun cc1 => ?_)
          · have h := (if_neg cc1).symm.trans h
            refine lv_iconst (v := 2) hx hb dX3_line_123 (by decide) ?_
            obtain ⟨q_11, hq_11, h⟩ := ob2 h
            refine kVI (As := [.int 2]) (rest := []) C0 (kt_X7_number l G h1 a1 z_2 A1 2 hq_11) gi_V_X3_66_X7_number (n := 1) rfl (by decide +kernel) rfl ⟨rfl, rfl, Nat.le_of_ble_eq_true rfl, Nat.le_of_ble_eq_true rfl⟩ hPD hS 4 7 rfl rfl rfl [4, 5] [0, 1, 2, 3, 6, 7, 8, 9] [0, 1, 2, 3, 8, 9, 4, 5, 6, 7] (wr := (wX3 G h0 a0 f0 A0 ++ (wX1 G h2 a2 f2 A2))) (wN := (wX3 G h0 a0 f0 A0 ++ (wX7 G h1 a1 q_11.2 A1 ++ (wX1 G h2 a2 f2 A2)))) rfl rfl rfl rfl rfl hl.1 (Nat.le_of_ble_eq_true rfl) dX3_line_124 (fun H locs hPD hS => ?_)
            exact ww_f3_line_b127 C0 A0 f0 q_11.2 l3 (f7_look z_1 A1) q_11.1 h _ _ _ hPD hS (lv_sub hl [1, 2, 3, 4, 0] rfl)
          · have h := (if_pos cc1).symm.trans h
            refine lv_iconst (v := 3) hx hb dX3_line_119 (by decide) ?_
            refine lv_goto (tgt := 124) hx hb dX3_line_120 (by decide) ?_
            obtain ⟨q_12, hq_12, h⟩ := ob2 h
            refine kVI (As := [.int 3]) (rest := []) C0 (kt_X7_number l G h1 a1 z_2 A1 3 hq_12) gi_V_X3_66_X7_number (n := 1) rfl (by decide +kernel) rfl ⟨rfl, rfl, Nat.le_of_ble_eq_true rfl, Nat.le_of_ble_eq_true rfl⟩ hPD hS 4 7 rfl rfl rfl [4, 5] [0, 1, 2, 3, 6, 7, 8, 9] [0, 1, 2, 3, 8, 9, 4, 5, 6, 7] (wr := (wX3 G h0 a0 f0 A0 ++ (wX1 G h2 a2 f2 A2))) (wN := (wX3 G h0 a0 f0 A0 ++ (wX7 G h1 a1 q_12.2 A1 ++ (wX1 G h2 a2 f2 A2)))) rfl rfl rfl rfl rfl hl.1 (Nat.le_of_ble_eq_true rfl) dX3_line_124 (fun H locs hPD hS => ?_)
            exact ww_f3_line_b127 C0 A0 f0 q_12.2 l3 (f7_look z_1 A1) q_12.1 h _ _ _ hPD hS (lv_sub hl [1, 2, 3, 4, 0] rfl)
        · have h := (if_pos cc1).symm.trans h
          exact ww_f3_line_b102 C0 A0 f0 z_2 l3 (f7_look z_1 A1) h _ _ _ hPD hS (lv_sub hl [1, 2, 3, 4, 0] rfl)
    · have h := (if_pos cc1).symm.trans h
      refine lv_aload_n hx hb dX3_line_78 rfl (lv_at hl 2 rfl) ?_
      refine lv_iconst (v := 1) hx hb dX3_line_79 (by decide) ?_
      obtain ⟨z_13, ez_13, h⟩ := lvl h
      have kc := kt_X7_fail l G h1 a1 z_1 A1 1
      rw [← ez_13] at kc
      clear ez_13
      refine kVV (As := [.int 1]) (rest := []) C0 (kc) gi_V_X3_43_X7_fail (n := 1) rfl (by decide +kernel) rfl ⟨rfl, rfl, Nat.le_of_ble_eq_true rfl, Nat.le_of_ble_eq_true rfl⟩ hPD hS 4 7 rfl rfl rfl [4, 5] [0, 1, 2, 3, 6, 7, 8, 9] [0, 1, 2, 3, 8, 9, 4, 5, 6, 7] (wr := (wX3 G h0 a0 f0 A0 ++ (wX1 G h2 a2 f2 A2))) (wN := (wX3 G h0 a0 f0 A0 ++ (wX7 G h1 a1 z_13 A1 ++ (wX1 G h2 a2 f2 A2)))) rfl rfl rfl rfl rfl hl.1 (Nat.le_of_ble_eq_true rfl) dX3_line_80 (fun H locs hPD hS => ?_)
      obtain rfl := Option.some.inj h
      exact eV C0 hPD.1 hPD.2 hS dX3_line_83
  · have h := (if_pos cc1).symm.trans h
    obtain rfl := Option.some.inj h
    exact eV C0 hPD.1 hPD.2 hS dX3_line_59
set_option maxRecDepth 100000 in
set_option maxHeartbeats 4000000 in
theorem kt_X3_line (l : Launch) (G : Gp) (h0 : Nat) (a0 : Nat → Nat) (h1 : Nat) (a1 : Nat → Nat) (h2 : Nat) (a2 : Nat → Nat) (f0 : Nat → Int32) (A0 : Nat → Nat → Int32) (f1 : Nat → Int32) (A1 : Nat → Nat → Int32) (f2 : Nat → Int32) (A2 : Nat → Nat → Int32) : ∀ {r : (Nat → Nat → Int32) × (Nat → Int32) × (Nat → Int32)}, f3_line f0 A0 f1 A1 f2 A2 = some r → CtrV l yX3_line cX3_line 6 none rmX3_line G [.ref h0, .ref h1, .ref h2] (wX3 G h0 a0 f0 A0 ++ (wX7 G h1 a1 f1 A1 ++ (wX1 G h2 a2 f2 A2))) (wX3 G h0 a0 r.2.1 r.1 ++ (wX7 G h1 a1 r.2.2 A1 ++ (wX1 G h2 a2 f2 A2))) := by
  intro res h
  refine ctrV_of (cc := cX3_line) (maxL := 6) (ret := none) (by decide +kernel) rfl (Nat.le_of_ble_eq_true rfl) (fun p e s m below meth c DA C0 hP hD ls hl => ?_)
  have hPD : WD G DA (wX3 G h0 a0 f0 A0 ++ (wX7 G h1 a1 f1 A1 ++ (wX1 G h2 a2 f2 A2))) s.heap := ⟨hP, hD⟩
  have hS : va_S DA s.heap s.heap [] := va_S.rf
  have hl : lv_has ls 6 [(0, .ref h0), (1, .ref h1), (2, .ref h2)] := hl
  obtain ⟨hx, hb, hml, hown, hts⟩ := C0.1
  have hK := C0.2.2.2.1
  unfold f3_line at h
  refine lv_aload_n hx hb dX3_line_0 rfl (lv_at hl 1 rfl) ?_
  refine kVI (As := []) (rest := []) C0 (kt_X7_look l G h1 a1 f1 A1) gi_V_X3_35_X7_look (n := 0) rfl (by decide +kernel) rfl ⟨rfl, rfl, Nat.le_of_ble_eq_true rfl, Nat.le_of_ble_eq_true rfl⟩ hPD hS 4 7 rfl rfl rfl [4, 5] [0, 1, 2, 3, 6, 7, 8, 9] [0, 1, 2, 3, 8, 9, 4, 5, 6, 7] (wr := (wX3 G h0 a0 f0 A0 ++ (wX1 G h2 a2 f2 A2))) (wN := (wX3 G h0 a0 f0 A0 ++ (wX7 G h1 a1 f1 A1 ++ (wX1 G h2 a2 f2 A2)))) rfl rfl rfl rfl rfl hl.1 (Nat.le_of_ble_eq_true rfl) dX3_line_1 (fun H locs hPD hS => ?_)
  refine kSI (As := [.int (f7_look f1 A1)]) (rest := []) C0 (kt_X7_placeOf l G  (f7_look f1 A1)) gi_S_X3_39_X7_placeOf (n := 1) rfl (by decide +kernel) ⟨rfl, rfl, Nat.le_of_ble_eq_true rfl, Nat.le_of_ble_eq_true rfl⟩ hPD hS [] [0, 1, 2, 3, 4, 5, 6, 7, 8, 9] [0, 1, 2, 3, 4, 5, 6, 7, 8, 9] (wr := (wX3 G h0 a0 f0 A0 ++ (wX7 G h1 a1 f1 A1 ++ (wX1 G h2 a2 f2 A2)))) (wN := (wX3 G h0 a0 f0 A0 ++ (wX7 G h1 a1 f1 A1 ++ (wX1 G h2 a2 f2 A2)))) rfl rfl rfl rfl rfl hl.1 (Nat.le_of_ble_eq_true rfl) dX3_line_4 (fun H locs hPD hS => ?_)
  refine lv_istore_n (lv' := [(3, .int (f7_placeOf (f7_look f1 A1))), (0, .ref h0), (1, .ref h1), (2, .ref h2)]) hx hb dX3_line_7 rfl hl (by decide) rfl (fun ls hl => ?_)
  refine lv_iload_n hx hb dX3_line_8 rfl (lv_at hl 0 rfl) ?_
  refine lv_iconst (v := (-1)) hx hb dX3_line_9 (by decide) ?_
  refine lv_icmp_ne (tgt := 21) hx hb dX3_line_10 (by decide) (fun cc1 => ?_) (fun cc1 => ?_)
  · have h := (if_neg cc1).symm.trans h
    refine lv_aload_n hx hb dX3_line_21 rfl (lv_at hl 1 rfl) ?_
    refine va_get (D := G.1) (ci := 3) (v := .int (f0 3)) (C := RX3) (T := TX3) (N := 4) hx hb hts inlX3 hown hK hPD.1 0 rfl rfl 3 (by decide) (hts _ gw_221) (fun _ h9 => h9) rfl dX3_line_22 ?_
    refine lv_bipush (v := 20) hx hb dX3_line_25 (by decide) ?_
    refine lv_icmp_lt (tgt := 38) hx hb dX3_line_27 (by decide) (fun cc1 => ?_) (fun cc1 => ?_)
    · have h := (if_pos cc1).symm.trans h
      refine lv_aload_n hx hb dX3_line_38 rfl (lv_at hl 3 rfl) ?_
      refine lv_iload_n hx hb dX3_line_39 rfl (lv_at hl 0 rfl) ?_
      refine kVI (As := [.int (f7_placeOf (f7_look f1 A1))]) (rest := []) C0 (kt_X1_isTold l G h2 a2 f2 A2 (f7_placeOf (f7_look f1 A1))) gi_V_X3_47_X1_isTold (n := 1) rfl (by decide +kernel) rfl ⟨rfl, rfl, Nat.le_of_ble_eq_true rfl, Nat.le_of_ble_eq_true rfl⟩ hPD hS 6 1 rfl rfl rfl [6, 7, 8, 9] [0, 1, 2, 3, 4, 5] [0, 1, 2, 3, 4, 5, 6, 7, 8, 9] (wr := (wX3 G h0 a0 f0 A0 ++ (wX7 G h1 a1 f1 A1))) (wN := (wX3 G h0 a0 f0 A0 ++ (wX7 G h1 a1 f1 A1 ++ (wX1 G h2 a2 f2 A2)))) rfl rfl rfl rfl rfl hl.1 (Nat.le_of_ble_eq_true rfl) dX3_line_40 (fun H locs hPD hS => ?_)
      refine lv_if_ne (tgt := 52) hx hb dX3_line_43 (by decide) (fun cc1 => ?_) (fun cc1 => ?_)
      · have h := (if_neg cc1).symm.trans h
        exact ww_f3_line_b52 C0 A0 f0 f1 (f7_placeOf (f7_look f1 A1)) h _ _ _ hPD hS (lv_sub hl [1, 2, 3, 0] rfl)
      · have h := (if_pos cc1).symm.trans h
        refine lv_aload_n hx hb dX3_line_46 rfl (lv_at hl 2 rfl) ?_
        refine lv_bipush (v := 7) hx hb dX3_line_47 (by decide) ?_
        obtain ⟨z_14, ez_14, h⟩ := lvl h
        have kc := kt_X7_fail l G h1 a1 f1 A1 7
        rw [← ez_14] at kc
        clear ez_14
        refine kVV (As := [.int 7]) (rest := []) C0 (kc) gi_V_X3_43_X7_fail (n := 1) rfl (by decide +kernel) rfl ⟨rfl, rfl, Nat.le_of_ble_eq_true rfl, Nat.le_of_ble_eq_true rfl⟩ hPD hS 4 7 rfl rfl rfl [4, 5] [0, 1, 2, 3, 6, 7, 8, 9] [0, 1, 2, 3, 8, 9, 4, 5, 6, 7] (wr := (wX3 G h0 a0 f0 A0 ++ (wX1 G h2 a2 f2 A2))) (wN := (wX3 G h0 a0 f0 A0 ++ (wX7 G h1 a1 z_14 A1 ++ (wX1 G h2 a2 f2 A2)))) rfl rfl rfl rfl rfl hl.1 (Nat.le_of_ble_eq_true rfl) dX3_line_49 (fun H locs hPD hS => ?_)
        exact ww_f3_line_b52 C0 A0 f0 z_14 (f7_placeOf (f7_look f1 A1)) h _ _ _ hPD hS (lv_sub hl [1, 2, 3, 0] rfl)
    · have h := (if_neg cc1).symm.trans h
      refine lv_aload_n hx hb dX3_line_30 rfl (lv_at hl 2 rfl) ?_
      refine lv_iconst (v := 4) hx hb dX3_line_31 (by decide) ?_
      obtain ⟨z_15, ez_15, h⟩ := lvl h
      have kc := kt_X7_fail l G h1 a1 f1 A1 4
      rw [← ez_15] at kc
      clear ez_15
      refine kVV (As := [.int 4]) (rest := []) C0 (kc) gi_V_X3_43_X7_fail (n := 1) rfl (by decide +kernel) rfl ⟨rfl, rfl, Nat.le_of_ble_eq_true rfl, Nat.le_of_ble_eq_true rfl⟩ hPD hS 4 7 rfl rfl rfl [4, 5] [0, 1, 2, 3, 6, 7, 8, 9] [0, 1, 2, 3, 8, 9, 4, 5, 6, 7] (wr := (wX3 G h0 a0 f0 A0 ++ (wX1 G h2 a2 f2 A2))) (wN := (wX3 G h0 a0 f0 A0 ++ (wX7 G h1 a1 z_15 A1 ++ (wX1 G h2 a2 f2 A2)))) rfl rfl rfl rfl rfl hl.1 (Nat.le_of_ble_eq_true rfl) dX3_line_32 (fun H locs hPD hS => ?_)
      refine lv_goto (tgt := 52) hx hb dX3_line_35 (by decide) ?_
      exact ww_f3_line_b52 C0 A0 f0 z_15 (f7_placeOf (f7_look f1 A1)) h _ _ _ hPD hS (lv_sub hl [1, 2, 3, 0] rfl)
  · have h := (if_pos cc1).symm.trans h
    refine lv_aload_n hx hb dX3_line_13 rfl (lv_at hl 2 rfl) ?_
    refine lv_iconst (v := 1) hx hb dX3_line_14 (by decide) ?_
    obtain ⟨z_16, ez_16, h⟩ := lvl h
    have kc := kt_X7_fail l G h1 a1 f1 A1 1
    rw [← ez_16] at kc
    clear ez_16
    refine kVV (As := [.int 1]) (rest := []) C0 (kc) gi_V_X3_43_X7_fail (n := 1) rfl (by decide +kernel) rfl ⟨rfl, rfl, Nat.le_of_ble_eq_true rfl, Nat.le_of_ble_eq_true rfl⟩ hPD hS 4 7 rfl rfl rfl [4, 5] [0, 1, 2, 3, 6, 7, 8, 9] [0, 1, 2, 3, 8, 9, 4, 5, 6, 7] (wr := (wX3 G h0 a0 f0 A0 ++ (wX1 G h2 a2 f2 A2))) (wN := (wX3 G h0 a0 f0 A0 ++ (wX7 G h1 a1 z_16 A1 ++ (wX1 G h2 a2 f2 A2)))) rfl rfl rfl rfl rfl hl.1 (Nat.le_of_ble_eq_true rfl) dX3_line_15 (fun H locs hPD hS => ?_)
    refine lv_goto (tgt := 52) hx hb dX3_line_18 (by decide) ?_
    exact ww_f3_line_b52 C0 A0 f0 z_16 (f7_placeOf (f7_look f1 A1)) h _ _ _ hPD hS (lv_sub hl [1, 2, 3, 0] rfl)
abbrev rmX3_read : Room := { frames := 5, cells := 0, slots := 0, locals := 112 }
set_option maxRecDepth 100000 in
set_option maxHeartbeats 4000000 in
theorem ww_f3_read_b10  (C0 : Cx cX3_read 5 none RX3 p s m args meth c G DA) {h0 : Nat} {a0 : Nat → Nat} {h1 : Nat} {a1 : Nat → Nat} {h2 : Nat} {a2 : Nat → Nat} {A1 : Nat → Nat → Int32} {f2 : Nat → Int32} {A2 : Nat → Nat → Int32}  {k10 : (Nat → Nat → Int32) → (Nat → Int32) → (Nat → Int32) → Int32 → Int32 → Option ((Nat → Nat → Int32) × (Nat → Int32) × (Nat → Int32))} {res : (Nat → Nat → Int32) × (Nat → Int32) × (Nat → Int32)}  (hk10 : ∀ (A0 : Nat → Nat → Int32) (f0 : Nat → Int32) (f1 : Nat → Int32) (l3 : Int32) (l4 : Int32), k10 A0 f0 f1 l3 l4 = some res → ∀ (H : Heap) (locs : List Loc) (ls : Array Slot), WD G DA (wX3 G h0 a0 f0 A0 ++ (wX7 G h1 a1 f1 A1 ++ (wX1 G h2 a2 f2 A2))) H → va_S DA s.heap H locs → lv_has ls 5 [(0, .ref h0), (1, .ref h1), (2, .ref h2), (3, .int l3), (4, .int l4)] → W p l e rmX3_read s m args below meth c H locs 0 0 (MQ below (QV G DA (wX3 G h0 a0 res.2.1 res.1 ++ (wX7 G h1 a1 res.2.2 A1 ++ (wX1 G h2 a2 f2 A2)))) args s 0 0 DA) (F0 m 10 ls [])) : ∀ (A0 : Nat → Nat → Int32) (f0 : Nat → Int32) (f1 : Nat → Int32) (l3 : Int32) (l4 : Int32), f3_read_b10 A1 f2 A2  k10 A0 f0 f1 l3 l4 = some res → ∀ (H : Heap) (locs : List Loc) (ls : Array Slot), WD G DA (wX3 G h0 a0 f0 A0 ++ (wX7 G h1 a1 f1 A1 ++ (wX1 G h2 a2 f2 A2))) H → va_S DA s.heap H locs → lv_has ls 5 [(0, .ref h0), (1, .ref h1), (2, .ref h2), (3, .int l3), (4, .int l4)] → W p l e rmX3_read s m args below meth c H locs 0 0 (MQ below (QV G DA (wX3 G h0 a0 res.2.1 res.1 ++ (wX7 G h1 a1 res.2.2 A1 ++ (wX1 G h2 a2 f2 A2)))) args s 0 0 DA) (F0 m 10 ls []) := by
  obtain ⟨hx, hb, hml, hown, hts⟩ := C0.1
  have hK := C0.2.2.2.1
  intro A0 f0 f1 l3 l4 h _ _ _ hPD hS hl
  unfold f3_read_b10 at h
  refine lv_iload_n hx hb dX3_read_10 rfl (lv_at hl 3 rfl) ?_
  refine lv_if_eq (tgt := 38) hx hb dX3_read_11 (by decide) (fun cc1 => ?_) (fun cc1 => ?_)
  · have h := (if_pos cc1).symm.trans h
    obtain rfl := Option.some.inj h
    exact eV C0 hPD.1 hPD.2 hS dX3_read_38
  · have h := (if_neg cc1).symm.trans h
    refine lv_iload hx hb dX3_read_14 (lv_at hl 4 rfl) ?_
    refine lv_bipush (v := 120) hx hb dX3_read_16 (by decide) ?_
    refine lv_icmp_ge (tgt := 38) hx hb dX3_read_18 (by decide) (fun cc1 => ?_) (fun cc1 => ?_)
    · have h := (if_pos cc1).symm.trans h
      obtain rfl := Option.some.inj h
      exact eV C0 hPD.1 hPD.2 hS dX3_read_38
    · have h := (if_neg cc1).symm.trans h
      refine lv_aload_n hx hb dX3_read_21 rfl (lv_at hl 0 rfl) ?_
      refine lv_aload_n hx hb dX3_read_22 rfl (lv_at hl 1 rfl) ?_
      refine lv_aload_n hx hb dX3_read_23 rfl (lv_at hl 2 rfl) ?_
      obtain ⟨q_2, hq_2, h⟩ := ob2 h
      refine kVV (As := [.ref h1, .ref h2]) (rest := []) C0 (kt_X3_line l G h0 a0 h1 a1 h2 a2 f0 A0 f1 A1 f2 A2 hq_2) gi_V_X3_25_X3_line (n := 2) rfl (by decide +kernel) rfl ⟨rfl, rfl, Nat.le_of_ble_eq_true rfl, Nat.le_of_ble_eq_true rfl⟩ hPD hS 0 3 rfl rfl rfl [0, 1, 2, 3, 4, 5, 6, 7, 8, 9] [] [0, 1, 2, 3, 4, 5, 6, 7, 8, 9] (wr := ([] : va_W)) (wN := (wX3 G h0 a0 q_2.2.1 q_2.1 ++ (wX7 G h1 a1 q_2.2.2 A1 ++ (wX1 G h2 a2 f2 A2)))) rfl rfl rfl rfl rfl hl.1 (Nat.le_of_ble_eq_true rfl) dX3_read_24 (fun H locs hPD hS => ?_)
      refine lv_aload_n hx hb dX3_read_27 rfl (lv_at hl 1 rfl) ?_
      obtain ⟨q_3, hq_3, h⟩ := ob2 h
      refine kVI (As := []) (rest := []) C0 (kt_X7_goesOn l G h1 a1 q_2.2.2 A1 hq_3) gi_V_X3_29_X7_goesOn (n := 0) rfl (by decide +kernel) rfl ⟨rfl, rfl, Nat.le_of_ble_eq_true rfl, Nat.le_of_ble_eq_true rfl⟩ hPD hS 4 7 rfl rfl rfl [4, 5] [0, 1, 2, 3, 6, 7, 8, 9] [0, 1, 2, 3, 8, 9, 4, 5, 6, 7] (wr := (wX3 G h0 a0 q_2.2.1 q_2.1 ++ (wX1 G h2 a2 f2 A2))) (wN := (wX3 G h0 a0 q_2.2.1 q_2.1 ++ (wX7 G h1 a1 q_3.2 A1 ++ (wX1 G h2 a2 f2 A2)))) rfl rfl rfl rfl rfl hl.1 (Nat.le_of_ble_eq_true rfl) dX3_read_28 (fun H locs hPD hS => ?_)
      refine lv_istore_n (lv' := [(3, .int q_3.1), (0, .ref h0), (1, .ref h1), (2, .ref h2), (4, .int l4)]) hx hb dX3_read_31 rfl hl (by decide) rfl (fun ls hl => ?_)
      refine lv_iinc (v := l4 + 1) (lv' := [(4, .int (l4 + 1)), (3, .int q_3.1), (0, .ref h0), (1, .ref h1), (2, .ref h2)]) hx hb dX3_read_32 hl (k := 4) rfl rfl (by decide) rfl (fun ls hl => ?_)
      refine lv_goto (tgt := 10) hx hb dX3_read_35 (by decide) ?_
      exact hk10 q_2.1 q_2.2.1 q_3.2 q_3.1 (l4 + 1) h _ _ _ hPD hS (lv_sub hl [2, 3, 4, 1, 0] rfl)
set_option maxRecDepth 100000 in
set_option maxHeartbeats 4000000 in
theorem ww_f3_read_l10  (C0 : Cx cX3_read 5 none RX3 p s m args meth c G DA) {h0 : Nat} {a0 : Nat → Nat} {h1 : Nat} {a1 : Nat → Nat} {h2 : Nat} {a2 : Nat → Nat} {A1 : Nat → Nat → Int32} {f2 : Nat → Int32} {A2 : Nat → Nat → Int32}   {res : (Nat → Nat → Int32) × (Nat → Int32) × (Nat → Int32)}  : ∀ (n : Nat) (A0 : Nat → Nat → Int32) (f0 : Nat → Int32) (f1 : Nat → Int32) (l3 : Int32) (l4 : Int32), f3_read_l10 A1 f2 A2  n A0 f0 f1 l3 l4 = some res → ∀ (H : Heap) (locs : List Loc) (ls : Array Slot), WD G DA (wX3 G h0 a0 f0 A0 ++ (wX7 G h1 a1 f1 A1 ++ (wX1 G h2 a2 f2 A2))) H → va_S DA s.heap H locs → lv_has ls 5 [(0, .ref h0), (1, .ref h1), (2, .ref h2), (3, .int l3), (4, .int l4)] → W p l e rmX3_read s m args below meth c H locs 0 0 (MQ below (QV G DA (wX3 G h0 a0 res.2.1 res.1 ++ (wX7 G h1 a1 res.2.2 A1 ++ (wX1 G h2 a2 f2 A2)))) args s 0 0 DA) (F0 m 10 ls []) := by
  intro n
  induction n with
  | zero => intro A0 f0 f1 l3 l4 h; cases h
  | succ n ih => intro A0 f0 f1 l3 l4 h; exact ww_f3_read_b10 C0  ih A0 f0 f1 l3 l4 h
set_option maxRecDepth 100000 in
set_option maxHeartbeats 4000000 in
theorem kt_X3_read (l : Launch) (G : Gp) (h0 : Nat) (a0 : Nat → Nat) (h1 : Nat) (a1 : Nat → Nat) (h2 : Nat) (a2 : Nat → Nat) (f0 : Nat → Int32) (A0 : Nat → Nat → Int32) (f1 : Nat → Int32) (A1 : Nat → Nat → Int32) (f2 : Nat → Int32) (A2 : Nat → Nat → Int32) : ∀ {r : (Nat → Nat → Int32) × (Nat → Int32) × (Nat → Int32)}, f3_read f0 A0 f1 A1 f2 A2 = some r → CtrV l yX3_read cX3_read 5 none rmX3_read G [.ref h0, .ref h1, .ref h2] (wX3 G h0 a0 f0 A0 ++ (wX7 G h1 a1 f1 A1 ++ (wX1 G h2 a2 f2 A2))) (wX3 G h0 a0 r.2.1 r.1 ++ (wX7 G h1 a1 r.2.2 A1 ++ (wX1 G h2 a2 f2 A2))) := by
  intro res h
  refine ctrV_of (cc := cX3_read) (maxL := 5) (ret := none) (by decide +kernel) rfl (Nat.le_of_ble_eq_true rfl) (fun p e s m below meth c DA C0 hP hD ls hl => ?_)
  have hPD : WD G DA (wX3 G h0 a0 f0 A0 ++ (wX7 G h1 a1 f1 A1 ++ (wX1 G h2 a2 f2 A2))) s.heap := ⟨hP, hD⟩
  have hS : va_S DA s.heap s.heap [] := va_S.rf
  have hl : lv_has ls 5 [(0, .ref h0), (1, .ref h1), (2, .ref h2)] := hl
  obtain ⟨hx, hb, hml, hown, hts⟩ := C0.1
  have hK := C0.2.2.2.1
  unfold f3_read at h
  refine lv_aload_n hx hb dX3_read_0 rfl (lv_at hl 0 rfl) ?_
  refine lv_iconst (v := 0) hx hb dX3_read_1 (by decide) ?_
  refine va_put (D := G.1) (ci := 3) (v := .int 0) (ty := .int) (C := RX3) (T := TX3) (N := 4) hx hb hts inlX3 tyX3 tyX3_ok nmX3 hown hK hPD.1 hPD.2 hS 0 rfl rfl 3 (by decide) (hts _ gw_221) (fun _ h9 => h9) rfl (by decide +kernel) rfl rfl (Nat.le_of_ble_eq_true rfl) dX3_read_2 (fun H locs hP hD hS => ?_)
  obtain ⟨f0_1, ef0_1, h⟩ := lvl h
  have hPD : WD G DA (wX3 G h0 a0 f0_1 A0 ++ (wX7 G h1 a1 f1 A1 ++ (wX1 G h2 a2 f2 A2))) H := by rw [ef0_1]; exact ⟨hP, hD⟩
  clear ef0_1 hP hD
  refine lv_iconst (v := 1) hx hb dX3_read_5 (by decide) ?_
  refine lv_istore_n (lv' := [(3, .int 1), (0, .ref h0), (1, .ref h1), (2, .ref h2)]) hx hb dX3_read_6 rfl hl (by decide) rfl (fun ls hl => ?_)
  refine lv_iconst (v := 0) hx hb dX3_read_7 (by decide) ?_
  refine lv_istore (lv' := [(4, .int 0), (3, .int 1), (0, .ref h0), (1, .ref h1), (2, .ref h2)]) hx hb dX3_read_8 hl (by decide) rfl (fun ls hl => ?_)
  exact ww_f3_read_l10 C0 NF A0 f0_1 f1 1 0 h _ _ _ hPD hS (lv_sub hl [2, 3, 4, 1, 0] rfl)
abbrev rmX3_grant : Room := { frames := 2, cells := 0, slots := 0, locals := 44 }
set_option maxRecDepth 100000 in
set_option maxHeartbeats 4000000 in
theorem ww_f3_grant_b2  (C0 : Cx cX3_grant 7 none RX3 p s m args meth c G DA) {h0 : Nat} {a0 : Nat → Nat} {h1 : Nat} {a1 : Nat → Nat} {h2 : Nat} {a2 : Nat → Nat} {f0 : Nat → Int32} {A0 : Nat → Nat → Int32} {f1 : Nat → Int32} {f2 : Nat → Int32}  {k2 : (Nat → Nat → Int32) → (Nat → Nat → Int32) → Int32 → Option ((Nat → Nat → Int32) × (Nat → Nat → Int32))} {res : (Nat → Nat → Int32) × (Nat → Nat → Int32)}  (hk2 : ∀ (A1 : Nat → Nat → Int32) (A2 : Nat → Nat → Int32) (l3 : Int32), k2 A1 A2 l3 = some res → ∀ (H : Heap) (locs : List Loc) (ls : Array Slot), WD G DA (wX3 G h0 a0 f0 A0 ++ (wX6 G h1 a1 f1 A1 ++ (wX1 G h2 a2 f2 A2))) H → va_S DA s.heap H locs → lv_has ls 7 [(0, .ref h0), (1, .ref h1), (2, .ref h2), (3, .int l3)] → W p l e rmX3_grant s m args below meth c H locs 0 0 (MQ below (QV G DA (wX3 G h0 a0 f0 A0 ++ (wX6 G h1 a1 f1 res.1 ++ (wX1 G h2 a2 f2 res.2)))) args s 0 0 DA) (F0 m 2 ls [])) : ∀ (A1 : Nat → Nat → Int32) (A2 : Nat → Nat → Int32) (l3 : Int32), f3_grant_b2 f0 A0 f1 f2  k2 A1 A2 l3 = some res → ∀ (H : Heap) (locs : List Loc) (ls : Array Slot), WD G DA (wX3 G h0 a0 f0 A0 ++ (wX6 G h1 a1 f1 A1 ++ (wX1 G h2 a2 f2 A2))) H → va_S DA s.heap H locs → lv_has ls 7 [(0, .ref h0), (1, .ref h1), (2, .ref h2), (3, .int l3)] → W p l e rmX3_grant s m args below meth c H locs 0 0 (MQ below (QV G DA (wX3 G h0 a0 f0 A0 ++ (wX6 G h1 a1 f1 res.1 ++ (wX1 G h2 a2 f2 res.2)))) args s 0 0 DA) (F0 m 2 ls []) := by
  obtain ⟨hx, hb, hml, hown, hts⟩ := C0.1
  have hK := C0.2.2.2.1
  intro A1 A2 l3 h _ _ _ hPD hS hl
  unfold f3_grant_b2 at h
  refine lv_iload_n hx hb dX3_grant_2 rfl (lv_at hl 3 rfl) ?_
  refine lv_aload_n hx hb dX3_grant_3 rfl (lv_at hl 0 rfl) ?_
  refine va_get (D := G.1) (ci := 3) (v := .int (f0 3)) (C := RX3) (T := TX3) (N := 4) hx hb hts inlX3 hown hK hPD.1 0 rfl rfl 3 (by decide) (hts _ gw_221) (fun _ h9 => h9) rfl dX3_grant_4 ?_
  refine lv_icmp_ge (tgt := 177) hx hb dX3_grant_7 (by decide) (fun cc1 => ?_) (fun cc1 => ?_)
  · have h := (if_pos cc1).symm.trans h
    obtain rfl := Option.some.inj h
    exact eV C0 hPD.1 hPD.2 hS dX3_grant_177
  · have h := (if_neg cc1).symm.trans h
    refine lv_aload_n hx hb dX3_grant_10 rfl (lv_at hl 0 rfl) ?_
    refine va_get (D := G.1) (ci := 3) (v := .ref (a0 0)) (C := RX3) (T := TX3) (N := 4) hx hb hts inlX3 hown hK hPD.1 0 rfl rfl 0 (by decide) (hts _ gw_230) (fun _ h9 => h9) rfl dX3_grant_11 ?_
    refine lv_iload_n hx hb dX3_grant_14 rfl (lv_at hl 3 rfl) ?_
    refine kNI (As := [.ref (a0 0), .int l3]) (rest := []) C0 (kt_X9_at l G (a0 0) 20 (A0 0) l3 (by decide)) gi_U_X9_at (host := "IdleCrimes") (index := 73) (List.mem_of_getElem? (i := 18) rfl) gw_6 gw_7 (n := 2) rfl (by decide +kernel) ⟨rfl, rfl, Nat.le_of_ble_eq_true rfl, Nat.le_of_ble_eq_true rfl⟩ hPD hS [1] [0, 2, 3, 4, 5, 6, 7, 8, 9, 10, 11, 12, 13] [0, 13, 1, 2, 3, 4, 5, 6, 7, 8, 9, 10, 11, 12] (wr := pick (wX3 G h0 a0 f0 A0 ++ (wX6 G h1 a1 f1 A1 ++ (wX1 G h2 a2 f2 A2))) [0, 2, 3, 4, 5, 6, 7, 8, 9, 10, 11, 12, 13]) (wN := (wX3 G h0 a0 f0 A0 ++ (wX6 G h1 a1 f1 A1 ++ (wX1 G h2 a2 f2 A2)))) rfl rfl rfl rfl rfl hl.1 (Nat.le_of_ble_eq_true rfl) dX3_grant_15 (fun H locs hPD hS => ?_)
    refine lv_istore (lv' := [(4, .int (f9_at 20 (A0 0) l3)), (0, .ref h0), (1, .ref h1), (2, .ref h2), (3, .int l3)]) hx hb dX3_grant_18 hl (by decide) rfl (fun ls hl => ?_)
    refine lv_aload_n hx hb dX3_grant_20 rfl (lv_at hl 1 rfl) ?_
    refine va_get (D := G.1) (ci := 3) (v := .ref (a0 2)) (C := RX3) (T := TX3) (N := 4) hx hb hts inlX3 hown hK hPD.1 0 rfl rfl 2 (by decide) (hts _ gw_232) (fun _ h9 => h9) rfl dX3_grant_21 ?_
    refine lv_iload_n hx hb dX3_grant_24 rfl (lv_at hl 4 rfl) ?_
    refine kNI (As := [.ref (a0 2), .int l3]) (rest := []) C0 (kt_X9_at l G (a0 2) 20 (A0 2) l3 (by decide)) gi_U_X9_at (host := "IdleCrimes") (index := 73) (List.mem_of_getElem? (i := 18) rfl) gw_6 gw_7 (n := 2) rfl (by decide +kernel) ⟨rfl, rfl, Nat.le_of_ble_eq_true rfl, Nat.le_of_ble_eq_true rfl⟩ hPD hS [3] [0, 1, 2, 4, 5, 6, 7, 8, 9, 10, 11, 12, 13] [0, 1, 2, 13, 3, 4, 5, 6, 7, 8, 9, 10, 11, 12] (wr := pick (wX3 G h0 a0 f0 A0 ++ (wX6 G h1 a1 f1 A1 ++ (wX1 G h2 a2 f2 A2))) [0, 1, 2, 4, 5, 6, 7, 8, 9, 10, 11, 12, 13]) (wN := (wX3 G h0 a0 f0 A0 ++ (wX6 G h1 a1 f1 A1 ++ (wX1 G h2 a2 f2 A2)))) rfl rfl rfl rfl rfl hl.1 (Nat.le_of_ble_eq_true rfl) dX3_grant_25 (fun H locs hPD hS => ?_)
    refine lv_istore (lv' := [(5, .int (f9_at 20 (A0 2) l3)), (4, .int (f9_at 20 (A0 0) l3)), (0, .ref h0), (1, .ref h1), (2, .ref h2), (3, .int l3)]) hx hb dX3_grant_28 hl (by decide) rfl (fun ls hl => ?_)
    refine lv_aload_n hx hb dX3_grant_30 rfl (lv_at hl 3 rfl) ?_
    refine va_get (D := G.1) (ci := 6) (v := .ref (a1 0)) (C := RX6) (T := TX6) (N := 10) hx hb hts inlX6 hown hK hPD.1 4 rfl rfl 0 (by decide) (hts _ gw_239) (fun _ h9 => h9) rfl dX3_grant_31 ?_
    refine lv_iload hx hb dX3_grant_34 (lv_at hl 1 rfl) ?_
    refine kNI (As := [.ref (a1 0), .int (f9_at 20 (A0 0) l3)]) (rest := []) C0 (kt_X9_at l G (a1 0) 16 (A1 0) (f9_at 20 (A0 0) l3) (by decide)) gi_U_X9_at (host := "IdleCrimes") (index := 73) (List.mem_of_getElem? (i := 18) rfl) gw_6 gw_7 (n := 2) rfl (by decide +kernel) ⟨rfl, rfl, Nat.le_of_ble_eq_true rfl, Nat.le_of_ble_eq_true rfl⟩ hPD hS [5] [0, 1, 2, 3, 4, 6, 7, 8, 9, 10, 11, 12, 13] [0, 1, 2, 3, 4, 13, 5, 6, 7, 8, 9, 10, 11, 12] (wr := pick (wX3 G h0 a0 f0 A0 ++ (wX6 G h1 a1 f1 A1 ++ (wX1 G h2 a2 f2 A2))) [0, 1, 2, 3, 4, 6, 7, 8, 9, 10, 11, 12, 13]) (wN := (wX3 G h0 a0 f0 A0 ++ (wX6 G h1 a1 f1 A1 ++ (wX1 G h2 a2 f2 A2)))) rfl rfl rfl rfl rfl hl.1 (Nat.le_of_ble_eq_true rfl) dX3_grant_36 (fun H locs hPD hS => ?_)
    refine lv_istore (lv' := [(6, .int (f9_at 16 (A1 0) (f9_at 20 (A0 0) l3))), (5, .int (f9_at 20 (A0 2) l3)), (4, .int (f9_at 20 (A0 0) l3)), (0, .ref h0), (1, .ref h1), (2, .ref h2), (3, .int l3)]) hx hb dX3_grant_39 hl (by decide) rfl (fun ls hl => ?_)
    refine lv_aload_n hx hb dX3_grant_41 rfl (lv_at hl 3 rfl) ?_
    refine va_get (D := G.1) (ci := 3) (v := .ref (a0 1)) (C := RX3) (T := TX3) (N := 4) hx hb hts inlX3 hown hK hPD.1 0 rfl rfl 1 (by decide) (hts _ gw_231) (fun _ h9 => h9) rfl dX3_grant_42 ?_
    refine lv_iload_n hx hb dX3_grant_45 rfl (lv_at hl 6 rfl) ?_
    refine kNI (As := [.ref (a0 1), .int l3]) (rest := []) C0 (kt_X9_at l G (a0 1) 20 (A0 1) l3 (by decide)) gi_U_X9_at (host := "IdleCrimes") (index := 73) (List.mem_of_getElem? (i := 18) rfl) gw_6 gw_7 (n := 2) rfl (by decide +kernel) ⟨rfl, rfl, Nat.le_of_ble_eq_true rfl, Nat.le_of_ble_eq_true rfl⟩ hPD hS [2] [0, 1, 3, 4, 5, 6, 7, 8, 9, 10, 11, 12, 13] [0, 1, 13, 2, 3, 4, 5, 6, 7, 8, 9, 10, 11, 12] (wr := pick (wX3 G h0 a0 f0 A0 ++ (wX6 G h1 a1 f1 A1 ++ (wX1 G h2 a2 f2 A2))) [0, 1, 3, 4, 5, 6, 7, 8, 9, 10, 11, 12, 13]) (wN := (wX3 G h0 a0 f0 A0 ++ (wX6 G h1 a1 f1 A1 ++ (wX1 G h2 a2 f2 A2)))) rfl rfl rfl rfl rfl hl.1 (Nat.le_of_ble_eq_true rfl) dX3_grant_46 (fun H locs hPD hS => ?_)
    by_cases cc38 : (f9_at 20 (A0 1) l3) = 38
    · have h := (if_pos cc38).symm.trans h
      refine lv_swL (tgt := 152) (k := 38) hx hb dX3_grant_49 cc38 (by decide) (by decide) (by decide) ?_
      refine lv_aload_n hx hb dX3_grant_152 rfl (lv_at hl 5 rfl) ?_
      refine lv_iload hx hb dX3_grant_153 (lv_at hl 2 rfl) ?_
      refine lv_iload hx hb dX3_grant_155 (lv_at hl 1 rfl) ?_
      obtain ⟨z_1, ez_1, h⟩ := lvl h
      have kc := kt_X1_join l G h2 a2 f2 A2 (f9_at 20 (A0 0) l3) (f9_at 20 (A0 2) l3)
      rw [← ez_1] at kc
      clear ez_1
      refine kVV (As := [.int (f9_at 20 (A0 0) l3), .int (f9_at 20 (A0 2) l3)]) (rest := []) C0 (kc) gi_V_X3_89_X1_join (n := 2) rfl (by decide +kernel) rfl ⟨rfl, rfl, Nat.le_of_ble_eq_true rfl, Nat.le_of_ble_eq_true rfl⟩ hPD hS 10 1 rfl rfl rfl [10, 11, 12, 13] [0, 1, 2, 3, 4, 5, 6, 7, 8, 9] [0, 1, 2, 3, 4, 5, 6, 7, 8, 9, 10, 11, 12, 13] (wr := (wX3 G h0 a0 f0 A0 ++ (wX6 G h1 a1 f1 A1))) (wN := (wX3 G h0 a0 f0 A0 ++ (wX6 G h1 a1 f1 A1 ++ (wX1 G h2 a2 f2 z_1)))) rfl rfl rfl rfl rfl hl.1 (Nat.le_of_ble_eq_true rfl) dX3_grant_157 (fun H locs hPD hS => ?_)
      refine lv_goto (tgt := 171) hx hb dX3_grant_160 (by decide) ?_
      refine lv_iinc (v := l3 + 1) (lv' := [(3, .int (l3 + 1)), (6, .int (f9_at 16 (A1 0) (f9_at 20 (A0 0) l3))), (5, .int (f9_at 20 (A0 2) l3)), (4, .int (f9_at 20 (A0 0) l3)), (0, .ref h0), (1, .ref h1), (2, .ref h2)]) hx hb dX3_grant_171 hl (k := 6) rfl rfl (by decide) rfl (fun ls hl => ?_)
      refine lv_goto (tgt := 2) hx hb dX3_grant_174 (by decide) ?_
      exact hk2 A1 z_1 (l3 + 1) h _ _ _ hPD hS (lv_sub hl [4, 5, 6, 0] rfl)
    have h := (if_neg cc38).symm.trans h
    by_cases cc43 : (f9_at 20 (A0 1) l3) = 43
    · have h := (if_pos cc43).symm.trans h
      refine lv_swL (tgt := 92) (k := 43) hx hb dX3_grant_49 cc43 (by decide) (by decide) (by decide) ?_
      refine lv_aload_n hx hb dX3_grant_92 rfl (lv_at hl 4 rfl) ?_
      refine va_get (D := G.1) (ci := 6) (v := .ref (a1 0)) (C := RX6) (T := TX6) (N := 10) hx hb hts inlX6 hown hK hPD.1 4 rfl rfl 0 (by decide) (hts _ gw_239) (fun _ h9 => h9) rfl dX3_grant_93 ?_
      refine lv_iload hx hb dX3_grant_96 (lv_at hl 2 rfl) ?_
      refine lv_iload hx hb dX3_grant_98 (lv_at hl 0 rfl) ?_
      refine lv_iload hx hb dX3_grant_100 (lv_at hl 1 rfl) ?_
      refine lv_iadd hx hb dX3_grant_102 ?_
      refine lv_iconst (v := 0) hx hb dX3_grant_103 (by decide) ?_
      refine lv_bipush (v := 99) hx hb dX3_grant_104 (by decide) ?_
      refine kNI (As := [.int ((f9_at 16 (A1 0) (f9_at 20 (A0 0) l3)) + (f9_at 20 (A0 2) l3)), .int 0, .int 99]) (rest := [.int (f9_at 20 (A0 0) l3), .ref (a1 0)]) C0 (kt_X9_clamp l G  ((f9_at 16 (A1 0) (f9_at 20 (A0 0) l3)) + (f9_at 20 (A0 2) l3)) 0 99) gi_U_X9_clamp (host := "IdleCrimes") (index := 82) (List.mem_of_getElem? (i := 19) rfl) gw_6 gw_211 (n := 3) rfl (by decide +kernel) ⟨rfl, rfl, Nat.le_of_ble_eq_true rfl, Nat.le_of_ble_eq_true rfl⟩ hPD hS [] [0, 1, 2, 3, 4, 5, 6, 7, 8, 9, 10, 11, 12, 13] [0, 1, 2, 3, 4, 5, 6, 7, 8, 9, 10, 11, 12, 13] (wr := (wX3 G h0 a0 f0 A0 ++ (wX6 G h1 a1 f1 A1 ++ (wX1 G h2 a2 f2 A2)))) (wN := (wX3 G h0 a0 f0 A0 ++ (wX6 G h1 a1 f1 A1 ++ (wX1 G h2 a2 f2 A2)))) rfl rfl rfl rfl rfl hl.1 (Nat.le_of_ble_eq_true rfl) dX3_grant_106 (fun H locs hPD hS => ?_)
      obtain ⟨z_2, ez_2, h⟩ := lvl h
      have kc := kt_X9_put l G (a1 0) 16 (A1 0) (f9_at 20 (A0 0) l3) (f9_clamp ((f9_at 16 (A1 0) (f9_at 20 (A0 0) l3)) + (f9_at 20 (A0 2) l3)) 0 99) (by decide)
      rw [← ez_2] at kc
      clear ez_2
      refine kNV (As := [.ref (a1 0), .int (f9_at 20 (A0 0) l3), .int (f9_clamp ((f9_at 16 (A1 0) (f9_at 20 (A0 0) l3)) + (f9_at 20 (A0 2) l3)) 0 99)]) (rest := []) C0 (kc) gi_U_X9_put (host := "IdleCrimes") (index := 69) (List.mem_of_getElem? (i := 17) rfl) gw_6 gw_19 (n := 3) rfl (by decide +kernel) ⟨rfl, rfl, Nat.le_of_ble_eq_true rfl, Nat.le_of_ble_eq_true rfl⟩ hPD hS [5] [0, 1, 2, 3, 4, 6, 7, 8, 9, 10, 11, 12, 13] [0, 1, 2, 3, 4, 13, 5, 6, 7, 8, 9, 10, 11, 12] (wr := pick (wX3 G h0 a0 f0 A0 ++ (wX6 G h1 a1 f1 A1 ++ (wX1 G h2 a2 f2 A2))) [0, 1, 2, 3, 4, 6, 7, 8, 9, 10, 11, 12, 13]) (wN := (wX3 G h0 a0 f0 A0 ++ (wX6 G h1 a1 f1 (updA A1 0 z_2) ++ (wX1 G h2 a2 f2 A2)))) rfl rfl rfl rfl rfl hl.1 (Nat.le_of_ble_eq_true rfl) dX3_grant_109 (fun H locs hPD hS => ?_)
      obtain ⟨A1_3, eA1_3, h⟩ := lvl h
      have hPD : WD G DA (wX3 G h0 a0 f0 A0 ++ (wX6 G h1 a1 f1 A1_3 ++ (wX1 G h2 a2 f2 A2))) H := by rw [eA1_3]; exact hPD
      clear eA1_3
      refine lv_goto (tgt := 171) hx hb dX3_grant_112 (by decide) ?_
      refine lv_iinc (v := l3 + 1) (lv' := [(3, .int (l3 + 1)), (6, .int (f9_at 16 (A1 0) (f9_at 20 (A0 0) l3))), (5, .int (f9_at 20 (A0 2) l3)), (4, .int (f9_at 20 (A0 0) l3)), (0, .ref h0), (1, .ref h1), (2, .ref h2)]) hx hb dX3_grant_171 hl (k := 6) rfl rfl (by decide) rfl (fun ls hl => ?_)
      refine lv_goto (tgt := 2) hx hb dX3_grant_174 (by decide) ?_
      exact hk2 A1_3 A2 (l3 + 1) h _ _ _ hPD hS (lv_sub hl [4, 5, 6, 0] rfl)
    have h := (if_neg cc43).symm.trans h
    by_cases cc45 : (f9_at 20 (A0 1) l3) = 45
    · have h := (if_pos cc45).symm.trans h
      refine lv_swL (tgt := 115) (k := 45) hx hb dX3_grant_49 cc45 (by decide) (by decide) (by decide) ?_
      refine lv_aload_n hx hb dX3_grant_115 rfl (lv_at hl 4 rfl) ?_
      refine va_get (D := G.1) (ci := 6) (v := .ref (a1 0)) (C := RX6) (T := TX6) (N := 10) hx hb hts inlX6 hown hK hPD.1 4 rfl rfl 0 (by decide) (hts _ gw_239) (fun _ h9 => h9) rfl dX3_grant_116 ?_
      refine lv_iload hx hb dX3_grant_119 (lv_at hl 2 rfl) ?_
      refine lv_iload hx hb dX3_grant_121 (lv_at hl 0 rfl) ?_
      refine lv_iload hx hb dX3_grant_123 (lv_at hl 1 rfl) ?_
      refine lv_isub hx hb dX3_grant_125 ?_
      refine lv_iconst (v := 0) hx hb dX3_grant_126 (by decide) ?_
      refine lv_bipush (v := 99) hx hb dX3_grant_127 (by decide) ?_
      refine kNI (As := [.int ((f9_at 16 (A1 0) (f9_at 20 (A0 0) l3)) - (f9_at 20 (A0 2) l3)), .int 0, .int 99]) (rest := [.int (f9_at 20 (A0 0) l3), .ref (a1 0)]) C0 (kt_X9_clamp l G  ((f9_at 16 (A1 0) (f9_at 20 (A0 0) l3)) - (f9_at 20 (A0 2) l3)) 0 99) gi_U_X9_clamp (host := "IdleCrimes") (index := 82) (List.mem_of_getElem? (i := 19) rfl) gw_6 gw_211 (n := 3) rfl (by decide +kernel) ⟨rfl, rfl, Nat.le_of_ble_eq_true rfl, Nat.le_of_ble_eq_true rfl⟩ hPD hS [] [0, 1, 2, 3, 4, 5, 6, 7, 8, 9, 10, 11, 12, 13] [0, 1, 2, 3, 4, 5, 6, 7, 8, 9, 10, 11, 12, 13] (wr := (wX3 G h0 a0 f0 A0 ++ (wX6 G h1 a1 f1 A1 ++ (wX1 G h2 a2 f2 A2)))) (wN := (wX3 G h0 a0 f0 A0 ++ (wX6 G h1 a1 f1 A1 ++ (wX1 G h2 a2 f2 A2)))) rfl rfl rfl rfl rfl hl.1 (Nat.le_of_ble_eq_true rfl) dX3_grant_129 (fun H locs hPD hS => ?_)
      obtain ⟨z_4, ez_4, h⟩ := lvl h
      have kc := kt_X9_put l G (a1 0) 16 (A1 0) (f9_at 20 (A0 0) l3) (f9_clamp ((f9_at 16 (A1 0) (f9_at 20 (A0 0) l3)) - (f9_at 20 (A0 2) l3)) 0 99) (by decide)
      rw [← ez_4] at kc
      clear ez_4
      refine kNV (As := [.ref (a1 0), .int (f9_at 20 (A0 0) l3), .int (f9_clamp ((f9_at 16 (A1 0) (f9_at 20 (A0 0) l3)) - (f9_at 20 (A0 2) l3)) 0 99)]) (rest := []) C0 (kc) gi_U_X9_put (host := "IdleCrimes") (index := 69) (List.mem_of_getElem? (i := 17) rfl) gw_6 gw_19 (n := 3) rfl (by decide +kernel) ⟨rfl, rfl, Nat.le_of_ble_eq_true rfl, Nat.le_of_ble_eq_true rfl⟩ hPD hS [5] [0, 1, 2, 3, 4, 6, 7, 8, 9, 10, 11, 12, 13] [0, 1, 2, 3, 4, 13, 5, 6, 7, 8, 9, 10, 11, 12] (wr := pick (wX3 G h0 a0 f0 A0 ++ (wX6 G h1 a1 f1 A1 ++ (wX1 G h2 a2 f2 A2))) [0, 1, 2, 3, 4, 6, 7, 8, 9, 10, 11, 12, 13]) (wN := (wX3 G h0 a0 f0 A0 ++ (wX6 G h1 a1 f1 (updA A1 0 z_4) ++ (wX1 G h2 a2 f2 A2)))) rfl rfl rfl rfl rfl hl.1 (Nat.le_of_ble_eq_true rfl) dX3_grant_132 (fun H locs hPD hS => ?_)
      obtain ⟨A1_5, eA1_5, h⟩ := lvl h
      have hPD : WD G DA (wX3 G h0 a0 f0 A0 ++ (wX6 G h1 a1 f1 A1_5 ++ (wX1 G h2 a2 f2 A2))) H := by rw [eA1_5]; exact hPD
      clear eA1_5
      refine lv_goto (tgt := 171) hx hb dX3_grant_135 (by decide) ?_
      refine lv_iinc (v := l3 + 1) (lv' := [(3, .int (l3 + 1)), (6, .int (f9_at 16 (A1 0) (f9_at 20 (A0 0) l3))), (5, .int (f9_at 20 (A0 2) l3)), (4, .int (f9_at 20 (A0 0) l3)), (0, .ref h0), (1, .ref h1), (2, .ref h2)]) hx hb dX3_grant_171 hl (k := 6) rfl rfl (by decide) rfl (fun ls hl => ?_)
      refine lv_goto (tgt := 2) hx hb dX3_grant_174 (by decide) ?_
      exact hk2 A1_5 A2 (l3 + 1) h _ _ _ hPD hS (lv_sub hl [4, 5, 6, 0] rfl)
    have h := (if_neg cc45).symm.trans h
    by_cases cc61 : (f9_at 20 (A0 1) l3) = 61
    · have h := (if_pos cc61).symm.trans h
      refine lv_swL (tgt := 138) (k := 61) hx hb dX3_grant_49 cc61 (by decide) (by decide) (by decide) ?_
      refine lv_aload_n hx hb dX3_grant_138 rfl (lv_at hl 4 rfl) ?_
      refine va_get (D := G.1) (ci := 6) (v := .ref (a1 1)) (C := RX6) (T := TX6) (N := 10) hx hb hts inlX6 hown hK hPD.1 4 rfl rfl 1 (by decide) (hts _ gw_241) (fun _ h9 => h9) rfl dX3_grant_139 ?_
      refine lv_iload hx hb dX3_grant_142 (lv_at hl 2 rfl) ?_
      refine lv_iload hx hb dX3_grant_144 (lv_at hl 1 rfl) ?_
      obtain ⟨z_6, ez_6, h⟩ := lvl h
      have kc := kt_X9_put l G (a1 1) 16 (A1 1) (f9_at 20 (A0 0) l3) (f9_at 20 (A0 2) l3) (by decide)
      rw [← ez_6] at kc
      clear ez_6
      refine kNV (As := [.ref (a1 1), .int (f9_at 20 (A0 0) l3), .int (f9_at 20 (A0 2) l3)]) (rest := []) C0 (kc) gi_U_X9_put (host := "IdleCrimes") (index := 69) (List.mem_of_getElem? (i := 17) rfl) gw_6 gw_19 (n := 3) rfl (by decide +kernel) ⟨rfl, rfl, Nat.le_of_ble_eq_true rfl, Nat.le_of_ble_eq_true rfl⟩ hPD hS [6] [0, 1, 2, 3, 4, 5, 7, 8, 9, 10, 11, 12, 13] [0, 1, 2, 3, 4, 5, 13, 6, 7, 8, 9, 10, 11, 12] (wr := pick (wX3 G h0 a0 f0 A0 ++ (wX6 G h1 a1 f1 A1 ++ (wX1 G h2 a2 f2 A2))) [0, 1, 2, 3, 4, 5, 7, 8, 9, 10, 11, 12, 13]) (wN := (wX3 G h0 a0 f0 A0 ++ (wX6 G h1 a1 f1 (updA A1 1 z_6) ++ (wX1 G h2 a2 f2 A2)))) rfl rfl rfl rfl rfl hl.1 (Nat.le_of_ble_eq_true rfl) dX3_grant_146 (fun H locs hPD hS => ?_)
      obtain ⟨A1_7, eA1_7, h⟩ := lvl h
      have hPD : WD G DA (wX3 G h0 a0 f0 A0 ++ (wX6 G h1 a1 f1 A1_7 ++ (wX1 G h2 a2 f2 A2))) H := by rw [eA1_7]; exact hPD
      clear eA1_7
      refine lv_goto (tgt := 171) hx hb dX3_grant_149 (by decide) ?_
      refine lv_iinc (v := l3 + 1) (lv' := [(3, .int (l3 + 1)), (6, .int (f9_at 16 (A1 0) (f9_at 20 (A0 0) l3))), (5, .int (f9_at 20 (A0 2) l3)), (4, .int (f9_at 20 (A0 0) l3)), (0, .ref h0), (1, .ref h1), (2, .ref h2)]) hx hb dX3_grant_171 hl (k := 6) rfl rfl (by decide) rfl (fun ls hl => ?_)
      refine lv_goto (tgt := 2) hx hb dX3_grant_174 (by decide) ?_
      exact hk2 A1_7 A2 (l3 + 1) h _ _ _ hPD hS (lv_sub hl [4, 5, 6, 0] rfl)
    have h := (if_neg cc61).symm.trans h
    refine lv_swLD (tgt := 163) (ks := [38, 43, 45, 61]) hx hb dX3_grant_49 (by decide) (by decide) ⟨cc38, cc43, cc45, cc61, trivial⟩ (by decide) ?_
    refine lv_aload_n hx hb dX3_grant_163 rfl (lv_at hl 5 rfl) ?_
    refine lv_iload hx hb dX3_grant_164 (lv_at hl 2 rfl) ?_
    refine lv_iload hx hb dX3_grant_166 (lv_at hl 1 rfl) ?_
    obtain ⟨z_8, ez_8, h⟩ := lvl h
    have kc := kt_X1_part l G h2 a2 f2 A2 (f9_at 20 (A0 0) l3) (f9_at 20 (A0 2) l3)
    rw [← ez_8] at kc
    clear ez_8
    refine kVV (As := [.int (f9_at 20 (A0 0) l3), .int (f9_at 20 (A0 2) l3)]) (rest := []) C0 (kc) gi_V_X3_93_X1_part (n := 2) rfl (by decide +kernel) rfl ⟨rfl, rfl, Nat.le_of_ble_eq_true rfl, Nat.le_of_ble_eq_true rfl⟩ hPD hS 10 1 rfl rfl rfl [10, 11, 12, 13] [0, 1, 2, 3, 4, 5, 6, 7, 8, 9] [0, 1, 2, 3, 4, 5, 6, 7, 8, 9, 10, 11, 12, 13] (wr := (wX3 G h0 a0 f0 A0 ++ (wX6 G h1 a1 f1 A1))) (wN := (wX3 G h0 a0 f0 A0 ++ (wX6 G h1 a1 f1 A1 ++ (wX1 G h2 a2 f2 z_8)))) rfl rfl rfl rfl rfl hl.1 (Nat.le_of_ble_eq_true rfl) dX3_grant_168 (fun H locs hPD hS => ?_)
    refine lv_iinc (v := l3 + 1) (lv' := [(3, .int (l3 + 1)), (6, .int (f9_at 16 (A1 0) (f9_at 20 (A0 0) l3))), (5, .int (f9_at 20 (A0 2) l3)), (4, .int (f9_at 20 (A0 0) l3)), (0, .ref h0), (1, .ref h1), (2, .ref h2)]) hx hb dX3_grant_171 hl (k := 6) rfl rfl (by decide) rfl (fun ls hl => ?_)
    refine lv_goto (tgt := 2) hx hb dX3_grant_174 (by decide) ?_
    exact hk2 A1 z_8 (l3 + 1) h _ _ _ hPD hS (lv_sub hl [4, 5, 6, 0] rfl)
set_option maxRecDepth 100000 in
set_option maxHeartbeats 4000000 in
theorem ww_f3_grant_l2  (C0 : Cx cX3_grant 7 none RX3 p s m args meth c G DA) {h0 : Nat} {a0 : Nat → Nat} {h1 : Nat} {a1 : Nat → Nat} {h2 : Nat} {a2 : Nat → Nat} {f0 : Nat → Int32} {A0 : Nat → Nat → Int32} {f1 : Nat → Int32} {f2 : Nat → Int32}   {res : (Nat → Nat → Int32) × (Nat → Nat → Int32)}  : ∀ (n : Nat) (A1 : Nat → Nat → Int32) (A2 : Nat → Nat → Int32) (l3 : Int32), f3_grant_l2 f0 A0 f1 f2  n A1 A2 l3 = some res → ∀ (H : Heap) (locs : List Loc) (ls : Array Slot), WD G DA (wX3 G h0 a0 f0 A0 ++ (wX6 G h1 a1 f1 A1 ++ (wX1 G h2 a2 f2 A2))) H → va_S DA s.heap H locs → lv_has ls 7 [(0, .ref h0), (1, .ref h1), (2, .ref h2), (3, .int l3)] → W p l e rmX3_grant s m args below meth c H locs 0 0 (MQ below (QV G DA (wX3 G h0 a0 f0 A0 ++ (wX6 G h1 a1 f1 res.1 ++ (wX1 G h2 a2 f2 res.2)))) args s 0 0 DA) (F0 m 2 ls []) := by
  intro n
  induction n with
  | zero => intro A1 A2 l3 h; cases h
  | succ n ih => intro A1 A2 l3 h; exact ww_f3_grant_b2 C0  ih A1 A2 l3 h
set_option maxRecDepth 100000 in
set_option maxHeartbeats 4000000 in
theorem kt_X3_grant (l : Launch) (G : Gp) (h0 : Nat) (a0 : Nat → Nat) (h1 : Nat) (a1 : Nat → Nat) (h2 : Nat) (a2 : Nat → Nat) (f0 : Nat → Int32) (A0 : Nat → Nat → Int32) (f1 : Nat → Int32) (A1 : Nat → Nat → Int32) (f2 : Nat → Int32) (A2 : Nat → Nat → Int32) : ∀ {r : (Nat → Nat → Int32) × (Nat → Nat → Int32)}, f3_grant f0 A0 f1 A1 f2 A2 = some r → CtrV l yX3_grant cX3_grant 7 none rmX3_grant G [.ref h0, .ref h1, .ref h2] (wX3 G h0 a0 f0 A0 ++ (wX6 G h1 a1 f1 A1 ++ (wX1 G h2 a2 f2 A2))) (wX3 G h0 a0 f0 A0 ++ (wX6 G h1 a1 f1 r.1 ++ (wX1 G h2 a2 f2 r.2))) := by
  intro res h
  refine ctrV_of (cc := cX3_grant) (maxL := 7) (ret := none) (by decide +kernel) rfl (Nat.le_of_ble_eq_true rfl) (fun p e s m below meth c DA C0 hP hD ls hl => ?_)
  have hPD : WD G DA (wX3 G h0 a0 f0 A0 ++ (wX6 G h1 a1 f1 A1 ++ (wX1 G h2 a2 f2 A2))) s.heap := ⟨hP, hD⟩
  have hS : va_S DA s.heap s.heap [] := va_S.rf
  have hl : lv_has ls 7 [(0, .ref h0), (1, .ref h1), (2, .ref h2)] := hl
  obtain ⟨hx, hb, hml, hown, hts⟩ := C0.1
  have hK := C0.2.2.2.1
  unfold f3_grant at h
  refine lv_iconst (v := 0) hx hb dX3_grant_0 (by decide) ?_
  refine lv_istore_n (lv' := [(3, .int 0), (0, .ref h0), (1, .ref h1), (2, .ref h2)]) hx hb dX3_grant_1 rfl hl (by decide) rfl (fun ls hl => ?_)
  exact ww_f3_grant_l2 C0 NF A1 A2 0 h _ _ _ hPD hS (lv_sub hl [1, 2, 3, 0] rfl)
abbrev rmX4_freeWatches : Room := { frames := 1, cells := 0, slots := 0, locals := 21 }
set_option maxRecDepth 100000 in
set_option maxHeartbeats 4000000 in
theorem ww_f4_freeWatches_b5  (C0 : Cx cX4_freeWatches 5 (some .int) RX4 p s m args meth c G DA) {q0 : Nat} {n0 : Nat} {xs0 : Nat → Int32} {p1 : Int32} {p2 : Int32} (hn0 : n0 < 2147483648) {k5 : Int32 → Int32 → Option (Int32)} {res : Int32}  (hk5 : ∀ (l3 : Int32) (l4 : Int32), k5 l3 l4 = some res → ∀ (H : Heap) (locs : List Loc) (ls : Array Slot), WD G DA (wI G q0 n0 xs0) H → va_S DA s.heap H locs → lv_has ls 5 [(0, .ref q0), (1, .int p1), (2, .int p2), (3, .int l3), (4, .int l4)] → W p l e rmX4_freeWatches s m args below meth c H locs 0 0 (MQ below (QI G DA res (wI G q0 n0 xs0)) args s 0 0 DA) (F0 m 5 ls [])) : ∀ (l3 : Int32) (l4 : Int32), f4_freeWatches_b5 n0 xs0 p1 p2  k5 l3 l4 = some res → ∀ (H : Heap) (locs : List Loc) (ls : Array Slot), WD G DA (wI G q0 n0 xs0) H → va_S DA s.heap H locs → lv_has ls 5 [(0, .ref q0), (1, .int p1), (2, .int p2), (3, .int l3), (4, .int l4)] → W p l e rmX4_freeWatches s m args below meth c H locs 0 0 (MQ below (QI G DA res (wI G q0 n0 xs0)) args s 0 0 DA) (F0 m 5 ls []) := by
  obtain ⟨hx, hb, hml, hown, hts⟩ := C0.1
  have hK := C0.2.2.2.1
  intro l3 l4 h _ _ _ hPD hS hl
  unfold f4_freeWatches_b5 at h
  refine lv_iload hx hb dX4_freeWatches_5 (lv_at hl 4 rfl) ?_
  refine lv_iload_n hx hb dX4_freeWatches_7 rfl (lv_at hl 2 rfl) ?_
  refine lv_icmp_ge (tgt := 31) hx hb dX4_freeWatches_8 (by decide) (fun cc1 => ?_) (fun cc1 => ?_)
  · have h := (if_pos cc1).symm.trans h
    refine lv_iload_n hx hb dX4_freeWatches_31 rfl (lv_at hl 3 rfl) ?_
    obtain rfl := Option.some.inj h
    exact eI C0 hPD.1 hPD.2 hS rfl dX4_freeWatches_32
  · have h := (if_neg cc1).symm.trans h
    refine lv_aload_n hx hb dX4_freeWatches_11 rfl (lv_at hl 0 rfl) ?_
    refine lv_iload hx hb dX4_freeWatches_12 (lv_at hl 4 rfl) ?_
    refine kNI (As := [.ref q0, .int l4]) (rest := []) C0 (kt_X9_at l G q0 n0 xs0 l4 hn0) gi_U_X9_at (host := "IdleCrimes") (index := 36) (List.mem_of_getElem? (i := 41) rfl) gw_6 gw_7 (n := 2) rfl (by decide +kernel) ⟨rfl, rfl, Nat.le_of_ble_eq_true rfl, Nat.le_of_ble_eq_true rfl⟩ hPD hS [0] [] [0] (wr := pick (wI G q0 n0 xs0) []) (wN := (wI G q0 n0 xs0)) rfl rfl rfl rfl rfl hl.1 (Nat.le_of_ble_eq_true rfl) dX4_freeWatches_14 (fun H locs hPD hS => ?_)
    refine lv_iload_n hx hb dX4_freeWatches_17 rfl (lv_at hl 1 rfl) ?_
    refine lv_iand hx hb dX4_freeWatches_18 ?_
    refine lv_if_ne (tgt := 25) hx hb dX4_freeWatches_19 (by decide) (fun cc1 => ?_) (fun cc1 => ?_)
    · have h := (if_neg cc1).symm.trans h
      refine lv_iinc (v := l4 + 1) (lv' := [(4, .int (l4 + 1)), (0, .ref q0), (1, .int p1), (2, .int p2), (3, .int l3)]) hx hb dX4_freeWatches_25 hl (k := 4) rfl rfl (by decide) rfl (fun ls hl => ?_)
      refine lv_goto (tgt := 5) hx hb dX4_freeWatches_28 (by decide) ?_
      exact hk5 l3 (l4 + 1) h _ _ _ hPD hS (lv_sub hl [1, 2, 3, 4, 0] rfl)
    · have h := (if_pos cc1).symm.trans h
      refine lv_iinc (v := l3 + 1) (lv' := [(3, .int (l3 + 1)), (0, .ref q0), (1, .int p1), (2, .int p2), (4, .int l4)]) hx hb dX4_freeWatches_22 hl (k := 3) rfl rfl (by decide) rfl (fun ls hl => ?_)
      refine lv_iinc (v := l4 + 1) (lv' := [(4, .int (l4 + 1)), (3, .int (l3 + 1)), (0, .ref q0), (1, .int p1), (2, .int p2)]) hx hb dX4_freeWatches_25 hl (k := 4) rfl rfl (by decide) rfl (fun ls hl => ?_)
      refine lv_goto (tgt := 5) hx hb dX4_freeWatches_28 (by decide) ?_
      exact hk5 (l3 + 1) (l4 + 1) h _ _ _ hPD hS (lv_sub hl [2, 3, 4, 1, 0] rfl)
set_option maxRecDepth 100000 in
set_option maxHeartbeats 4000000 in
theorem ww_f4_freeWatches_l5  (C0 : Cx cX4_freeWatches 5 (some .int) RX4 p s m args meth c G DA) {q0 : Nat} {n0 : Nat} {xs0 : Nat → Int32} {p1 : Int32} {p2 : Int32} (hn0 : n0 < 2147483648)  {res : Int32}  : ∀ (n : Nat) (l3 : Int32) (l4 : Int32), f4_freeWatches_l5 n0 xs0 p1 p2  n l3 l4 = some res → ∀ (H : Heap) (locs : List Loc) (ls : Array Slot), WD G DA (wI G q0 n0 xs0) H → va_S DA s.heap H locs → lv_has ls 5 [(0, .ref q0), (1, .int p1), (2, .int p2), (3, .int l3), (4, .int l4)] → W p l e rmX4_freeWatches s m args below meth c H locs 0 0 (MQ below (QI G DA res (wI G q0 n0 xs0)) args s 0 0 DA) (F0 m 5 ls []) := by
  intro n
  induction n with
  | zero => intro l3 l4 h; cases h
  | succ n ih => intro l3 l4 h; exact ww_f4_freeWatches_b5 C0 hn0  ih l3 l4 h
set_option maxRecDepth 100000 in
set_option maxHeartbeats 4000000 in
theorem kt_X4_freeWatches (l : Launch) (G : Gp) (q0 : Nat) (n0 : Nat) (xs0 : Nat → Int32) (p1 : Int32) (p2 : Int32) (hn0 : n0 < 2147483648) : ∀ {r : Int32}, f4_freeWatches n0 xs0 p1 p2 = some r → CtrI l yX4_freeWatches cX4_freeWatches 5 (some .int) rmX4_freeWatches G [.ref q0, .int p1, .int p2] (wI G q0 n0 xs0) r (wI G q0 n0 xs0) := by
  intro res h
  refine ctrI_of (cc := cX4_freeWatches) (maxL := 5) (ret := (some .int)) (by decide +kernel) rfl (Nat.le_of_ble_eq_true rfl) (fun p e s m below meth c DA C0 hP hD ls hl => ?_)
  have hPD : WD G DA (wI G q0 n0 xs0) s.heap := ⟨hP, hD⟩
  have hS : va_S DA s.heap s.heap [] := va_S.rf
  have hl : lv_has ls 5 [(0, .ref q0), (1, .int p1), (2, .int p2)] := hl
  obtain ⟨hx, hb, hml, hown, hts⟩ := C0.1
  have hK := C0.2.2.2.1
  unfold f4_freeWatches at h
  refine lv_iconst (v := 0) hx hb dX4_freeWatches_0 (by decide) ?_
  refine lv_istore_n (lv' := [(3, .int 0), (0, .ref q0), (1, .int p1), (2, .int p2)]) hx hb dX4_freeWatches_1 rfl hl (by decide) rfl (fun ls hl => ?_)
  refine lv_iconst (v := 0) hx hb dX4_freeWatches_2 (by decide) ?_
  refine lv_istore (lv' := [(4, .int 0), (3, .int 0), (0, .ref q0), (1, .int p1), (2, .int p2)]) hx hb dX4_freeWatches_3 hl (by decide) rfl (fun ls hl => ?_)
  exact ww_f4_freeWatches_l5 C0 hn0 NF 0 0 h _ _ _ hPD hS (lv_sub hl [2, 3, 4, 1, 0] rfl)
abbrev rmX4_tightest : Room := { frames := 3, cells := 0, slots := 0, locals := 64 }
set_option maxRecDepth 100000 in
set_option maxHeartbeats 4000000 in
theorem ww_f4_tightest_b13  (C0 : Cx cX4_tightest 8 (some .int) RX4 p s m args meth c G DA) {q0 : Nat} {q1 : Nat} {n0 : Nat} {xs0 : Nat → Int32} {n1 : Nat} {xs1 : Nat → Int32} {p2 : Int32} {p3 : Int32} (hn0 : n0 < 2147483648) (hn1 : n1 < 2147483648) {k13 : Int32 → Int32 → Int32 → Option (Int32)} {res : Int32}  (hk13 : ∀ (l4 : Int32) (l5 : Int32) (l6 : Int32), k13 l4 l5 l6 = some res → ∀ (H : Heap) (locs : List Loc) (ls : Array Slot), WD G DA (wI G q0 n0 xs0 ++ (wI G q1 n1 xs1)) H → va_S DA s.heap H locs → lv_has ls 8 [(0, .ref q0), (1, .ref q1), (2, .int p2), (3, .int p3), (4, .int l4), (5, .int l5), (6, .int l6)] → W p l e rmX4_tightest s m args below meth c H locs 0 0 (MQ below (QI G DA res (wI G q0 n0 xs0 ++ (wI G q1 n1 xs1))) args s 0 0 DA) (F0 m 13 ls [])) : ∀ (l4 : Int32) (l5 : Int32) (l6 : Int32), f4_tightest_b13 n0 xs0 n1 xs1 p2 p3  k13 l4 l5 l6 = some res → ∀ (H : Heap) (locs : List Loc) (ls : Array Slot), WD G DA (wI G q0 n0 xs0 ++ (wI G q1 n1 xs1)) H → va_S DA s.heap H locs → lv_has ls 8 [(0, .ref q0), (1, .ref q1), (2, .int p2), (3, .int p3), (4, .int l4), (5, .int l5), (6, .int l6)] → W p l e rmX4_tightest s m args below meth c H locs 0 0 (MQ below (QI G DA res (wI G q0 n0 xs0 ++ (wI G q1 n1 xs1))) args s 0 0 DA) (F0 m 13 ls []) := by
  obtain ⟨hx, hb, hml, hown, hts⟩ := C0.1
  have hK := C0.2.2.2.1
  intro l4 l5 l6 h _ _ _ hPD hS hl
  unfold f4_tightest_b13 at h
  refine lv_iload hx hb dX4_tightest_13 (lv_at hl 6 rfl) ?_
  refine lv_bipush (v := 16) hx hb dX4_tightest_15 (by decide) ?_
  refine lv_icmp_ge (tgt := 63) hx hb dX4_tightest_17 (by decide) (fun cc1 => ?_) (fun cc1 => ?_)
  · have h := (if_pos cc1).symm.trans h
    refine lv_iload hx hb dX4_tightest_63 (lv_at hl 4 rfl) ?_
    obtain rfl := Option.some.inj h
    exact eI C0 hPD.1 hPD.2 hS rfl dX4_tightest_65
  · have h := (if_neg cc1).symm.trans h
    refine lv_iload_n hx hb dX4_tightest_20 rfl (lv_at hl 2 rfl) ?_
    refine lv_iload hx hb dX4_tightest_21 (lv_at hl 6 rfl) ?_
    refine kNI (As := [.int p2, .int l6]) (rest := []) C0 (kt_X9_has l G  p2 l6) gi_U_X9_has (host := "IdleCrimes") (index := 28) (List.mem_of_getElem? (i := 40) rfl) gw_6 gw_74 (n := 2) rfl (by decide +kernel) ⟨rfl, rfl, Nat.le_of_ble_eq_true rfl, Nat.le_of_ble_eq_true rfl⟩ hPD hS [] [0, 1] [0, 1] (wr := (wI G q0 n0 xs0 ++ (wI G q1 n1 xs1))) (wN := (wI G q0 n0 xs0 ++ (wI G q1 n1 xs1))) rfl rfl rfl rfl rfl hl.1 (Nat.le_of_ble_eq_true rfl) dX4_tightest_23 (fun H locs hPD hS => ?_)
    refine lv_if_eq (tgt := 57) hx hb dX4_tightest_26 (by decide) (fun cc1 => ?_) (fun cc1 => ?_)
    · have h := (if_pos cc1).symm.trans h
      refine lv_iinc (v := l6 + 1) (lv' := [(6, .int (l6 + 1)), (0, .ref q0), (1, .ref q1), (2, .int p2), (3, .int p3), (4, .int l4), (5, .int l5)]) hx hb dX4_tightest_57 hl (k := 6) rfl rfl (by decide) rfl (fun ls hl => ?_)
      refine lv_goto (tgt := 13) hx hb dX4_tightest_60 (by decide) ?_
      exact hk13 l4 l5 (l6 + 1) h _ _ _ hPD hS (lv_sub hl [1, 2, 3, 4, 5, 6, 0] rfl)
    · have h := (if_neg cc1).symm.trans h
      refine lv_aload_n hx hb dX4_tightest_29 rfl (lv_at hl 0 rfl) ?_
      refine lv_aload_n hx hb dX4_tightest_30 rfl (lv_at hl 1 rfl) ?_
      refine lv_iload hx hb dX4_tightest_31 (lv_at hl 6 rfl) ?_
      refine kNI (As := [.ref q1, .int l6]) (rest := [.ref q0]) C0 (kt_X9_at l G q1 n1 xs1 l6 hn1) gi_U_X9_at (host := "IdleCrimes") (index := 36) (List.mem_of_getElem? (i := 41) rfl) gw_6 gw_7 (n := 2) rfl (by decide +kernel) ⟨rfl, rfl, Nat.le_of_ble_eq_true rfl, Nat.le_of_ble_eq_true rfl⟩ hPD hS [1] [0] [0, 1] (wr := pick (wI G q0 n0 xs0 ++ (wI G q1 n1 xs1)) [0]) (wN := (wI G q0 n0 xs0 ++ (wI G q1 n1 xs1))) rfl rfl rfl rfl rfl hl.1 (Nat.le_of_ble_eq_true rfl) dX4_tightest_33 (fun H locs hPD hS => ?_)
      refine lv_iload_n hx hb dX4_tightest_36 rfl (lv_at hl 3 rfl) ?_
      obtain ⟨q_2, hq_2, h⟩ := ob2 h
      refine kSI (As := [.ref q0, .int (f9_at n1 xs1 l6), .int p3]) (rest := []) C0 (kt_X4_freeWatches l G q0 n0 xs0 (f9_at n1 xs1 l6) p3 hn0 hq_2) gi_S_X4_52_X4_freeWatches (n := 3) rfl (by decide +kernel) ⟨rfl, rfl, Nat.le_of_ble_eq_true rfl, Nat.le_of_ble_eq_true rfl⟩ hPD hS [0] [1] [1, 0] (wr := pick (wI G q0 n0 xs0 ++ (wI G q1 n1 xs1)) [1]) (wN := (wI G q0 n0 xs0 ++ (wI G q1 n1 xs1))) rfl rfl rfl rfl rfl hl.1 (Nat.le_of_ble_eq_true rfl) dX4_tightest_37 (fun H locs hPD hS => ?_)
      refine lv_istore (lv' := [(7, .int q_2), (0, .ref q0), (1, .ref q1), (2, .int p2), (3, .int p3), (4, .int l4), (5, .int l5), (6, .int l6)]) hx hb dX4_tightest_40 hl (by decide) rfl (fun ls hl => ?_)
      refine lv_iload hx hb dX4_tightest_42 (lv_at hl 0 rfl) ?_
      refine lv_iload hx hb dX4_tightest_44 (lv_at hl 6 rfl) ?_
      refine lv_icmp_ge (tgt := 57) hx hb dX4_tightest_46 (by decide) (fun cc1 => ?_) (fun cc1 => ?_)
      · have h := (if_pos cc1).symm.trans h
        refine lv_iinc (v := l6 + 1) (lv' := [(6, .int (l6 + 1)), (7, .int q_2), (0, .ref q0), (1, .ref q1), (2, .int p2), (3, .int p3), (4, .int l4), (5, .int l5)]) hx hb dX4_tightest_57 hl (k := 7) rfl rfl (by decide) rfl (fun ls hl => ?_)
        refine lv_goto (tgt := 13) hx hb dX4_tightest_60 (by decide) ?_
        exact hk13 l4 l5 (l6 + 1) h _ _ _ hPD hS (lv_sub hl [2, 3, 4, 5, 6, 7, 0] rfl)
      · have h := (if_neg cc1).symm.trans h
        refine lv_iload hx hb dX4_tightest_49 (lv_at hl 0 rfl) ?_
        refine lv_istore (lv' := [(5, .int q_2), (7, .int q_2), (0, .ref q0), (1, .ref q1), (2, .int p2), (3, .int p3), (4, .int l4), (6, .int l6)]) hx hb dX4_tightest_51 hl (by decide) rfl (fun ls hl => ?_)
        refine lv_iload hx hb dX4_tightest_53 (lv_at hl 7 rfl) ?_
        refine lv_istore (lv' := [(4, .int l6), (5, .int q_2), (7, .int q_2), (0, .ref q0), (1, .ref q1), (2, .int p2), (3, .int p3), (6, .int l6)]) hx hb dX4_tightest_55 hl (by decide) rfl (fun ls hl => ?_)
        refine lv_iinc (v := l6 + 1) (lv' := [(6, .int (l6 + 1)), (4, .int l6), (5, .int q_2), (7, .int q_2), (0, .ref q0), (1, .ref q1), (2, .int p2), (3, .int p3)]) hx hb dX4_tightest_57 hl (k := 7) rfl rfl (by decide) rfl (fun ls hl => ?_)
        refine lv_goto (tgt := 13) hx hb dX4_tightest_60 (by decide) ?_
        exact hk13 l6 q_2 (l6 + 1) h _ _ _ hPD hS (lv_sub hl [4, 5, 6, 7, 1, 2, 0] rfl)
end WALK
