section WALK
variable {p : Program} {l : Launch} {e : Env} {s : State} {m : MethodId} {args : Array Value} {below : List Frame} {meth : Method} {c : Code} {G : Gp} {DA : Nat → Prop}
abbrev rmX9_beat : Room := { frames := 69, cells := 0, slots := 0, locals := 1773 }
set_option maxRecDepth 100000 in
set_option maxHeartbeats 4000000 in
theorem kt_X9_beat (l : Launch) (G : Gp) (h0 : Nat) (a0 : Nat → Nat) (wk : Option Nat) (a1 : Nat → Nat) (g2 : Nat → Nat) (aB2 : Nat → Nat → Nat) (a3 : Nat → Nat) (f0 : Nat → Int32) (A0 : Nat → Nat → Int32) (f1 : Nat → Int32) (A1 : Nat → Nat → Int32) (fB2 : Nat → Nat → Int32) (AB2 : Nat → Nat → Nat → Int32) (f3 : Nat → Int32) (A3 : Nat → Nat → Int32) (p1 : Int32) (p2 : Int32) : ∀ {r : Int32 × (Nat → Int32) × (Nat → Nat → Nat → Int32) × (Nat → Nat → Int32) × (Nat → Nat → Int32) × (Nat → Int32)}, f9_beat f0 A0 f1 A1 fB2 AB2 f3 A3 p1 p2 = some r → CtrIE l yX9_beat cX9_beat 5 (some .int) rmX9_beat G [.ref h0, .int p1, .int p2] (wX9 G h0 a0 wk f0 A0 ++ (wX7 G (a0 0) a1 f1 A1 ++ (wB G (a0 5) g2 aB2 fB2 AB2 ++ (wX0 G (a0 10) a3 f3 A3)))) r.1 (fun u : (Nat → Nat) × (Nat → Nat) × (Nat → Nat) × (Nat → Nat → Nat) × (Nat → Nat) => (wX9 G h0 u.1 wk f0 A0 ++ (wX7 G (u.1 0) u.2.1 r.2.1 A1 ++ (wB G (u.1 5) (u.2.2.1) (u.2.2.2.1) r.2.2.2.1 r.2.2.1 ++ (wX0 G (u.1 10) u.2.2.2.2 r.2.2.2.2.2 r.2.2.2.2.1))))) := by
  intro res h
  refine ctrIE_of (cc := cX9_beat) (maxL := 5) (ret := (some .int)) (by decide +kernel) rfl (Nat.le_of_ble_eq_true rfl) (fun p e s m below meth c DA C0 hP hD ls hl => ?_)
  have hPD : WD G DA (wX9 G h0 a0 wk f0 A0 ++ (wX7 G (a0 0) a1 f1 A1 ++ (wB G (a0 5) g2 aB2 fB2 AB2 ++ (wX0 G (a0 10) a3 f3 A3)))) s.heap := ⟨hP, hD⟩
  have hS : va_S DA s.heap s.heap [] := va_S.rf
  have hl : lv_has ls 5 [(0, .ref h0), (1, .int p1), (2, .int p2)] := hl
  obtain ⟨hx, hb, hml, hown, hts⟩ := C0.1
  have hK := C0.2.2.2.1
  unfold f9_beat at h
  refine lv_iload_n hx hb dX9_beat_0 rfl (lv_at hl 1 rfl) ?_
  refine lv_iconst (v := 0) hx hb dX9_beat_1 (by decide) ?_
  refine lv_aload_n hx hb dX9_beat_2 rfl (lv_at hl 0 rfl) ?_
  refine va_get (D := G.1) (ci := 9) (v := .ref (a0 5)) (C := RX9) (T := TX9) (N := 15) hx hb hts inlX9 hown hK hPD.1 0 rfl rfl 5 (by decide) (hts _ gw_392) (fun _ h9 => h9) rfl dX9_beat_3 ?_
  refine va_alen (v := 8) hx hb hK hPD.1 4 2 rfl rfl rfl dX9_beat_6 ?_
  refine lv_iconst (v := 1) hx hb dX9_beat_7 (by decide) ?_
  refine lv_isub hx hb dX9_beat_8 ?_
  refine kSI (As := [.int p1, .int 0, .int (8 - 1)]) (rest := []) C0 (kt_X9_within l G  p1 0 (8 - 1)) gi_S_X9_90_X9_within (n := 3) rfl (by decide +kernel) ⟨rfl, rfl, Nat.le_of_ble_eq_true rfl, Nat.le_of_ble_eq_true rfl⟩ hPD hS [] [0, 1, 2, 3, 4, 5, 6, 7, 8, 9, 10, 11, 12, 13, 14, 15, 16, 17, 18, 19, 20, 21, 22] [0, 1, 2, 3, 4, 5, 6, 7, 8, 9, 10, 11, 12, 13, 14, 15, 16, 17, 18, 19, 20, 21, 22] (wN := (wX9 G h0 a0 wk f0 A0 ++ (wX7 G (a0 0) a1 f1 A1 ++ (wB G (a0 5) g2 aB2 fB2 AB2 ++ (wX0 G (a0 10) a3 f3 A3))))) rfl rfl rfl rfl rfl hl.1 (Nat.le_of_ble_eq_true rfl) dX9_beat_9 (fun H locs hPD hS => ?_)
  refine lv_if_eq (tgt := 36) hx hb dX9_beat_12 (by decide) (fun cc1 => ?_) (fun cc1 => ?_)
  · have h := (if_pos cc1).symm.trans h
    refine lv_iconst (v := (-1)) hx hb dX9_beat_36 (by decide) ?_
    obtain rfl := Option.some.inj h
    exact eIE ((a0), a1, g2, aB2, a3) C0 hPD [0, 1, 2, 3, 4, 5, 6, 7, 8, 9, 10, 11, 12, 13, 14, 15, 16, 17, 18, 19, 20, 21, 22] rfl rfl hS rfl dX9_beat_37
  · have h := (if_neg cc1).symm.trans h
    refine lv_iload_n hx hb dX9_beat_15 rfl (lv_at hl 2 rfl) ?_
    refine lv_iconst (v := 1) hx hb dX9_beat_16 (by decide) ?_
    refine lv_bipush (v := 60) hx hb dX9_beat_17 (by decide) ?_
    refine kSI (As := [.int p2, .int 1, .int 60]) (rest := []) C0 (kt_X9_within l G  p2 1 60) gi_S_X9_90_X9_within (n := 3) rfl (by decide +kernel) ⟨rfl, rfl, Nat.le_of_ble_eq_true rfl, Nat.le_of_ble_eq_true rfl⟩ hPD hS [] [0, 1, 2, 3, 4, 5, 6, 7, 8, 9, 10, 11, 12, 13, 14, 15, 16, 17, 18, 19, 20, 21, 22] [0, 1, 2, 3, 4, 5, 6, 7, 8, 9, 10, 11, 12, 13, 14, 15, 16, 17, 18, 19, 20, 21, 22] (wN := (wX9 G h0 a0 wk f0 A0 ++ (wX7 G (a0 0) a1 f1 A1 ++ (wB G (a0 5) g2 aB2 fB2 AB2 ++ (wX0 G (a0 10) a3 f3 A3))))) rfl rfl rfl rfl rfl hl.1 (Nat.le_of_ble_eq_true rfl) dX9_beat_19 (fun H locs hPD hS => ?_)
    refine lv_if_eq (tgt := 36) hx hb dX9_beat_22 (by decide) (fun cc1 => ?_) (fun cc1 => ?_)
    · have h := (if_pos cc1).symm.trans h
      refine lv_iconst (v := (-1)) hx hb dX9_beat_36 (by decide) ?_
      obtain rfl := Option.some.inj h
      exact eIE ((a0), a1, g2, aB2, a3) C0 hPD [0, 1, 2, 3, 4, 5, 6, 7, 8, 9, 10, 11, 12, 13, 14, 15, 16, 17, 18, 19, 20, 21, 22] rfl rfl hS rfl dX9_beat_37
    · have h := (if_neg cc1).symm.trans h
      refine lv_aload_n hx hb dX9_beat_25 rfl (lv_at hl 0 rfl) ?_
      refine va_get (D := G.1) (ci := 9) (v := .ref (a0 0)) (C := RX9) (T := TX9) (N := 15) hx hb hts inlX9 hown hK hPD.1 0 rfl rfl 0 (by decide) (hts _ gw_366) (fun _ h9 => h9) rfl dX9_beat_26 ?_
      refine lv_iload_n hx hb dX9_beat_29 rfl (lv_at hl 2 rfl) ?_
      refine kVI (As := [.int p2]) (rest := []) C0 (kt_X7_holds l G (a0 0) a1 f1 A1 p2) gi_V_X9_132_X7_holds (n := 1) rfl (by decide +kernel) rfl ⟨rfl, rfl, Nat.le_of_ble_eq_true rfl, Nat.le_of_ble_eq_true rfl⟩ hPD hS 2 7 rfl rfl rfl [2, 3] [0, 1, 4, 5, 6, 7, 8, 9, 10, 11, 12, 13, 14, 15, 16, 17, 18, 19, 20, 21, 22] [0, 1, 21, 22, 2, 3, 4, 5, 6, 7, 8, 9, 10, 11, 12, 13, 14, 15, 16, 17, 18, 19, 20] (wN := (wX9 G h0 a0 wk f0 A0 ++ (wX7 G (a0 0) a1 f1 A1 ++ (wB G (a0 5) g2 aB2 fB2 AB2 ++ (wX0 G (a0 10) a3 f3 A3))))) rfl rfl rfl rfl rfl hl.1 (Nat.le_of_ble_eq_true rfl) dX9_beat_30 (fun H locs hPD hS => ?_)
      refine lv_if_ne (tgt := 38) hx hb dX9_beat_33 (by decide) (fun cc1 => ?_) (fun cc1 => ?_)
      · have h := (if_neg cc1).symm.trans h
        refine lv_aload_n hx hb dX9_beat_38 rfl (lv_at hl 0 rfl) ?_
        refine va_get (D := G.1) (ci := 9) (v := .ref (a0 0)) (C := RX9) (T := TX9) (N := 15) hx hb hts inlX9 hown hK hPD.1 0 rfl rfl 0 (by decide) (hts _ gw_366) (fun _ h9 => h9) rfl dX9_beat_39 ?_
        refine lv_iload_n hx hb dX9_beat_42 rfl (lv_at hl 2 rfl) ?_
        refine kVV (As := [.int p2]) (rest := []) C0 (kt_X7_open l G (a0 0) a1 f1 A1 p2) gi_V_X9_135_X7_open (n := 1) rfl (by decide +kernel) rfl ⟨rfl, rfl, Nat.le_of_ble_eq_true rfl, Nat.le_of_ble_eq_true rfl⟩ hPD hS 2 7 rfl rfl rfl [2, 3] [0, 1, 4, 5, 6, 7, 8, 9, 10, 11, 12, 13, 14, 15, 16, 17, 18, 19, 20, 21, 22] [0, 1, 21, 22, 2, 3, 4, 5, 6, 7, 8, 9, 10, 11, 12, 13, 14, 15, 16, 17, 18, 19, 20] (wN := (wX9 G h0 a0 wk f0 A0 ++ (wX7 G (a0 0) a1 (f7_open f1 A1 p2) A1 ++ (wB G (a0 5) g2 aB2 fB2 AB2 ++ (wX0 G (a0 10) a3 f3 A3))))) rfl rfl rfl rfl rfl hl.1 (Nat.le_of_ble_eq_true rfl) dX9_beat_43 (fun H locs hPD hS => ?_)
        refine lv_aload_n hx hb dX9_beat_46 rfl (lv_at hl 0 rfl) ?_
        refine va_get (D := G.1) (ci := 9) (v := .ref (a0 10)) (C := RX9) (T := TX9) (N := 15) hx hb hts inlX9 hown hK hPD.1 0 rfl rfl 10 (by decide) (hts _ gw_393) (fun _ h9 => h9) rfl dX9_beat_47 ?_
        refine lv_aload_n hx hb dX9_beat_50 rfl (lv_at hl 0 rfl) ?_
        refine va_get (D := G.1) (ci := 9) (v := .ref (a0 0)) (C := RX9) (T := TX9) (N := 15) hx hb hts inlX9 hown hK hPD.1 0 rfl rfl 0 (by decide) (hts _ gw_366) (fun _ h9 => h9) rfl dX9_beat_51 ?_
        obtain ⟨q_1, hq_1, h⟩ := ob2 h
        refine kVV (As := [.ref (a0 0)]) (rest := []) C0 (kt_X0_read l G (a0 10) a3 (a0 0) a1 f3 A3 (f7_open f1 A1 p2) A1 hq_1) gi_V_X9_153_X0_read (n := 1) rfl (by decide +kernel) rfl ⟨rfl, rfl, Nat.le_of_ble_eq_true rfl, Nat.le_of_ble_eq_true rfl⟩ hPD hS 21 0 rfl rfl rfl [21, 22, 2, 3] [0, 1, 4, 5, 6, 7, 8, 9, 10, 11, 12, 13, 14, 15, 16, 17, 18, 19, 20] [0, 1, 21, 22, 2, 3, 4, 5, 6, 7, 8, 9, 10, 11, 12, 13, 14, 15, 16, 17, 18, 19, 20] (wN := (wX9 G h0 a0 wk f0 A0 ++ (wX7 G (a0 0) a1 q_1.2.2 A1 ++ (wB G (a0 5) g2 aB2 fB2 AB2 ++ (wX0 G (a0 10) a3 q_1.2.1 q_1.1))))) rfl rfl rfl rfl rfl hl.1 (Nat.le_of_ble_eq_true rfl) dX9_beat_54 (fun H locs hPD hS => ?_)
        refine lv_aload_n hx hb dX9_beat_57 rfl (lv_at hl 0 rfl) ?_
        refine va_get (D := G.1) (ci := 9) (v := .ref (a0 10)) (C := RX9) (T := TX9) (N := 15) hx hb hts inlX9 hown hK hPD.1 0 rfl rfl 10 (by decide) (hts _ gw_393) (fun _ h9 => h9) rfl dX9_beat_58 ?_
        refine va_get (D := G.1) (ci := 0) (v := .int (q_1.2.1 1)) (C := RX0) (T := TX0) (N := 2) hx hb hts inlX0 hown hK hPD.1 21 rfl rfl 1 (by decide) (hts _ gw_398) (fun _ h9 => h9) rfl dX9_beat_61 ?_
        refine lv_istore_n (lv' := [(3, .int (q_1.2.1 1)), (0, .ref h0), (1, .int p1), (2, .int p2)]) hx hb dX9_beat_64 rfl hl (by decide) rfl (fun ls hl => ?_)
        refine lv_aload_n hx hb dX9_beat_65 rfl (lv_at hl 1 rfl) ?_
        refine va_get (D := G.1) (ci := 9) (v := .ref (a0 0)) (C := RX9) (T := TX9) (N := 15) hx hb hts inlX9 hown hK hPD.1 0 rfl rfl 0 (by decide) (hts _ gw_366) (fun _ h9 => h9) rfl dX9_beat_66 ?_
        refine kVI (As := []) (rest := []) C0 (kt_X7_isFine l G (a0 0) a1 q_1.2.2 A1) gi_V_X9_142_X7_isFine (n := 0) rfl (by decide +kernel) rfl ⟨rfl, rfl, Nat.le_of_ble_eq_true rfl, Nat.le_of_ble_eq_true rfl⟩ hPD hS 2 7 rfl rfl rfl [2, 3] [0, 1, 4, 5, 6, 7, 8, 9, 10, 11, 12, 13, 14, 15, 16, 17, 18, 19, 20, 21, 22] [0, 1, 21, 22, 2, 3, 4, 5, 6, 7, 8, 9, 10, 11, 12, 13, 14, 15, 16, 17, 18, 19, 20] (wN := (wX9 G h0 a0 wk f0 A0 ++ (wX7 G (a0 0) a1 q_1.2.2 A1 ++ (wB G (a0 5) g2 aB2 fB2 AB2 ++ (wX0 G (a0 10) a3 q_1.2.1 q_1.1))))) rfl rfl rfl rfl rfl hl.1 (Nat.le_of_ble_eq_true rfl) dX9_beat_69 (fun H locs hPD hS => ?_)
        refine lv_if_eq (tgt := 99) hx hb dX9_beat_72 (by decide) (fun cc1 => ?_) (fun cc1 => ?_)
        · have h := (if_pos cc1).symm.trans h
          refine lv_aload_n hx hb dX9_beat_99 rfl (lv_at hl 1 rfl) ?_
          refine va_get (D := G.1) (ci := 9) (v := .ref (a0 0)) (C := RX9) (T := TX9) (N := 15) hx hb hts inlX9 hown hK hPD.1 0 rfl rfl 0 (by decide) (hts _ gw_366) (fun _ h9 => h9) rfl dX9_beat_100 ?_
          refine lv_iload_n hx hb dX9_beat_103 rfl (lv_at hl 0 rfl) ?_
          refine kVI (As := [.int (q_1.2.1 1)]) (rest := []) C0 (kt_X7_answer l G (a0 0) a1 q_1.2.2 A1 (q_1.2.1 1)) gi_V_X9_149_X7_answer (n := 1) rfl (by decide +kernel) rfl ⟨rfl, rfl, Nat.le_of_ble_eq_true rfl, Nat.le_of_ble_eq_true rfl⟩ hPD hS 2 7 rfl rfl rfl [2, 3] [0, 1, 4, 5, 6, 7, 8, 9, 10, 11, 12, 13, 14, 15, 16, 17, 18, 19, 20, 21, 22] [0, 1, 21, 22, 2, 3, 4, 5, 6, 7, 8, 9, 10, 11, 12, 13, 14, 15, 16, 17, 18, 19, 20] (wN := (wX9 G h0 a0 wk f0 A0 ++ (wX7 G (a0 0) a1 q_1.2.2 A1 ++ (wB G (a0 5) g2 aB2 fB2 AB2 ++ (wX0 G (a0 10) a3 q_1.2.1 q_1.1))))) rfl rfl rfl rfl rfl hl.1 (Nat.le_of_ble_eq_true rfl) dX9_beat_104 (fun H locs hPD hS => ?_)
          obtain rfl := Option.some.inj h
          exact eIE ((a0), a1, g2, aB2, a3) C0 hPD [0, 1, 2, 3, 4, 5, 6, 7, 8, 9, 10, 11, 12, 13, 14, 15, 16, 17, 18, 19, 20, 21, 22] rfl rfl hS rfl dX9_beat_107
        · have h := (if_neg cc1).symm.trans h
          refine lv_aload_n hx hb dX9_beat_75 rfl (lv_at hl 1 rfl) ?_
          refine va_get (D := G.1) (ci := 9) (v := .ref (a0 5)) (C := RX9) (T := TX9) (N := 15) hx hb hts inlX9 hown hK hPD.1 0 rfl rfl 5 (by decide) (hts _ gw_392) (fun _ h9 => h9) rfl dX9_beat_76 ?_
          refine lv_iload_n hx hb dX9_beat_79 rfl (lv_at hl 2 rfl) ?_
          obtain ⟨hi_2, h⟩ := ob h
          obtain ⟨b_3, eb_3, h⟩ := lvl h
          have hb_4 := bts_lt hi_2 eb_3
          refine va_aldB hx hb hK hPD.1 4 2 rfl rfl hi_2 eb_3 dX9_beat_80 ?_
          rcases lt8 hb_4 with rfl | rfl | rfl | rfl | rfl | rfl | rfl | rfl
          · refine lv_astore (lv' := [(4, .ref (g2 0)), (3, .int (q_1.2.1 1)), (0, .ref h0), (1, .int p1), (2, .int p2)]) hx hb dX9_beat_81 hl (by decide) rfl (fun ls hl => ?_)
            refine lv_aload_n hx hb dX9_beat_83 rfl (lv_at hl 2 rfl) ?_
            refine va_get (D := G.1) (ci := 9) (v := .ref (a0 5)) (C := RX9) (T := TX9) (N := 15) hx hb hts inlX9 hown hK hPD.1 0 rfl rfl 5 (by decide) (hts _ gw_392) (fun _ h9 => h9) rfl dX9_beat_84 ?_
            refine lv_iload_n hx hb dX9_beat_87 rfl (lv_at hl 3 rfl) ?_
            refine lv_aload_n hx hb dX9_beat_88 rfl (lv_at hl 2 rfl) ?_
            refine va_get (D := G.1) (ci := 9) (v := .ref (a0 10)) (C := RX9) (T := TX9) (N := 15) hx hb hts inlX9 hown hK hPD.1 0 rfl rfl 10 (by decide) (hts _ gw_393) (fun _ h9 => h9) rfl dX9_beat_89 ?_
            refine va_astB hx hb hK hPD.1 hPD.2 hS 4 2 21 0 rfl rfl rfl rfl hi_2 eb_3 dX9_beat_92 (fun H locs hP hD hS => ?_)
            have hPD : WD G DA (wX9 G h0 a0 wk f0 A0 ++ (wX7 G (a0 0) a1 q_1.2.2 A1 ++ ([((a0 5), .inl (G.2.2.2, 8, .inr (.inr (.inr (.inr (fun k => some (va_up g2 0 (a0 10) k))))))), (g2 0, .inr (0, [.ref (aB2 0 0), .int (fB2 0 1)])), (aB2 0 0, .inl (G.2.2.1, 48, .inl (AB2 0 0))), (g2 1, .inr (0, [.ref (aB2 1 0), .int (fB2 1 1)])), (aB2 1 0, .inl (G.2.2.1, 48, .inl (AB2 1 0))), (g2 2, .inr (0, [.ref (aB2 2 0), .int (fB2 2 1)])), (aB2 2 0, .inl (G.2.2.1, 48, .inl (AB2 2 0))), (g2 3, .inr (0, [.ref (aB2 3 0), .int (fB2 3 1)])), (aB2 3 0, .inl (G.2.2.1, 48, .inl (AB2 3 0))), (g2 4, .inr (0, [.ref (aB2 4 0), .int (fB2 4 1)])), (aB2 4 0, .inl (G.2.2.1, 48, .inl (AB2 4 0))), (g2 5, .inr (0, [.ref (aB2 5 0), .int (fB2 5 1)])), (aB2 5 0, .inl (G.2.2.1, 48, .inl (AB2 5 0))), (g2 6, .inr (0, [.ref (aB2 6 0), .int (fB2 6 1)])), (aB2 6 0, .inl (G.2.2.1, 48, .inl (AB2 6 0))), (g2 7, .inr (0, [.ref (aB2 7 0), .int (fB2 7 1)])), (aB2 7 0, .inl (G.2.2.1, 48, .inl (AB2 7 0)))] ++ (wX0 G (a0 10) a3 q_1.2.1 q_1.1)))) H := ⟨hP, hD⟩
            clear hP hD
            refine lv_aload_n hx hb dX9_beat_93 rfl (lv_at hl 2 rfl) ?_
            refine lv_aload hx hb dX9_beat_94 (lv_at hl 0 rfl) ?_
            refine va_put (D := G.1) (ci := 9) (v := .ref (g2 0)) (ty := .object "IdleCrimes$Beat") (C := RX9) (T := TX9) (N := 15) hx hb hts inlX9 tyX9 tyX9_ok nmX9 hown hK hPD.1 hPD.2 hS 0 rfl rfl 10 (by decide) (hts _ gw_393) (fun _ h9 => h9) rfl (by decide +kernel) rfl rfl (Nat.le_of_ble_eq_true rfl) dX9_beat_96 (fun H locs hP hD hS => ?_)
            have hPD : WD G DA (wX9 G h0 (va_up a0 10 (g2 0)) wk f0 A0 ++ (wX7 G (a0 0) a1 q_1.2.2 A1 ++ ([((a0 5), .inl (G.2.2.2, 8, .inr (.inr (.inr (.inr (fun k => some (va_up g2 0 (a0 10) k))))))), (g2 0, .inr (0, [.ref (aB2 0 0), .int (fB2 0 1)])), (aB2 0 0, .inl (G.2.2.1, 48, .inl (AB2 0 0))), (g2 1, .inr (0, [.ref (aB2 1 0), .int (fB2 1 1)])), (aB2 1 0, .inl (G.2.2.1, 48, .inl (AB2 1 0))), (g2 2, .inr (0, [.ref (aB2 2 0), .int (fB2 2 1)])), (aB2 2 0, .inl (G.2.2.1, 48, .inl (AB2 2 0))), (g2 3, .inr (0, [.ref (aB2 3 0), .int (fB2 3 1)])), (aB2 3 0, .inl (G.2.2.1, 48, .inl (AB2 3 0))), (g2 4, .inr (0, [.ref (aB2 4 0), .int (fB2 4 1)])), (aB2 4 0, .inl (G.2.2.1, 48, .inl (AB2 4 0))), (g2 5, .inr (0, [.ref (aB2 5 0), .int (fB2 5 1)])), (aB2 5 0, .inl (G.2.2.1, 48, .inl (AB2 5 0))), (g2 6, .inr (0, [.ref (aB2 6 0), .int (fB2 6 1)])), (aB2 6 0, .inl (G.2.2.1, 48, .inl (AB2 6 0))), (g2 7, .inr (0, [.ref (aB2 7 0), .int (fB2 7 1)])), (aB2 7 0, .inl (G.2.2.1, 48, .inl (AB2 7 0)))] ++ (wX0 G (a0 10) a3 q_1.2.1 q_1.1)))) H := ⟨hP, hD⟩
            clear hP hD
            refine lv_aload_n hx hb dX9_beat_99 rfl (lv_at hl 2 rfl) ?_
            refine va_get (D := G.1) (ci := 9) (v := .ref (a0 0)) (C := RX9) (T := TX9) (N := 15) hx hb hts inlX9 hown hK hPD.1 0 rfl rfl 0 (by decide) (hts _ gw_366) (fun _ h9 => h9) rfl dX9_beat_100 ?_
            refine lv_iload_n hx hb dX9_beat_103 rfl (lv_at hl 1 rfl) ?_
            refine kVI (As := [.int (q_1.2.1 1)]) (rest := []) C0 (kt_X7_answer l G (a0 0) a1 q_1.2.2 A1 (q_1.2.1 1)) gi_V_X9_149_X7_answer (n := 1) rfl (by decide +kernel) rfl ⟨rfl, rfl, Nat.le_of_ble_eq_true rfl, Nat.le_of_ble_eq_true rfl⟩ hPD hS 2 7 rfl rfl rfl [2, 3] [0, 1, 4, 5, 6, 7, 8, 9, 10, 11, 12, 13, 14, 15, 16, 17, 18, 19, 20, 21, 22] [0, 1, 21, 22, 2, 3, 4, 5, 6, 7, 8, 9, 10, 11, 12, 13, 14, 15, 16, 17, 18, 19, 20] (wN := (wX9 G h0 (va_up a0 10 (g2 0)) wk f0 A0 ++ (wX7 G (a0 0) a1 q_1.2.2 A1 ++ ([((a0 5), .inl (G.2.2.2, 8, .inr (.inr (.inr (.inr (fun k => some (va_up g2 0 (a0 10) k))))))), (g2 0, .inr (0, [.ref (aB2 0 0), .int (fB2 0 1)])), (aB2 0 0, .inl (G.2.2.1, 48, .inl (AB2 0 0))), (g2 1, .inr (0, [.ref (aB2 1 0), .int (fB2 1 1)])), (aB2 1 0, .inl (G.2.2.1, 48, .inl (AB2 1 0))), (g2 2, .inr (0, [.ref (aB2 2 0), .int (fB2 2 1)])), (aB2 2 0, .inl (G.2.2.1, 48, .inl (AB2 2 0))), (g2 3, .inr (0, [.ref (aB2 3 0), .int (fB2 3 1)])), (aB2 3 0, .inl (G.2.2.1, 48, .inl (AB2 3 0))), (g2 4, .inr (0, [.ref (aB2 4 0), .int (fB2 4 1)])), (aB2 4 0, .inl (G.2.2.1, 48, .inl (AB2 4 0))), (g2 5, .inr (0, [.ref (aB2 5 0), .int (fB2 5 1)])), (aB2 5 0, .inl (G.2.2.1, 48, .inl (AB2 5 0))), (g2 6, .inr (0, [.ref (aB2 6 0), .int (fB2 6 1)])), (aB2 6 0, .inl (G.2.2.1, 48, .inl (AB2 6 0))), (g2 7, .inr (0, [.ref (aB2 7 0), .int (fB2 7 1)])), (aB2 7 0, .inl (G.2.2.1, 48, .inl (AB2 7 0)))] ++ (wX0 G (a0 10) a3 q_1.2.1 q_1.1))))) rfl rfl rfl rfl rfl hl.1 (Nat.le_of_ble_eq_true rfl) dX9_beat_104 (fun H locs hPD hS => ?_)
            obtain rfl := Option.some.inj h
            exact eIE ((va_up a0 10 (g2 0)), a1, (va_up g2 0 (a0 10)), (va_up aB2 0 a3), (aB2 0)) C0 hPD [0, 1, 2, 3, 4, 21, 22, 7, 8, 9, 10, 11, 12, 13, 14, 15, 16, 17, 18, 19, 20, 5, 6] rfl rfl hS rfl dX9_beat_107
          · refine lv_astore (lv' := [(4, .ref (g2 1)), (3, .int (q_1.2.1 1)), (0, .ref h0), (1, .int p1), (2, .int p2)]) hx hb dX9_beat_81 hl (by decide) rfl (fun ls hl => ?_)
            refine lv_aload_n hx hb dX9_beat_83 rfl (lv_at hl 2 rfl) ?_
            refine va_get (D := G.1) (ci := 9) (v := .ref (a0 5)) (C := RX9) (T := TX9) (N := 15) hx hb hts inlX9 hown hK hPD.1 0 rfl rfl 5 (by decide) (hts _ gw_392) (fun _ h9 => h9) rfl dX9_beat_84 ?_
            refine lv_iload_n hx hb dX9_beat_87 rfl (lv_at hl 3 rfl) ?_
            refine lv_aload_n hx hb dX9_beat_88 rfl (lv_at hl 2 rfl) ?_
            refine va_get (D := G.1) (ci := 9) (v := .ref (a0 10)) (C := RX9) (T := TX9) (N := 15) hx hb hts inlX9 hown hK hPD.1 0 rfl rfl 10 (by decide) (hts _ gw_393) (fun _ h9 => h9) rfl dX9_beat_89 ?_
            refine va_astB hx hb hK hPD.1 hPD.2 hS 4 2 21 0 rfl rfl rfl rfl hi_2 eb_3 dX9_beat_92 (fun H locs hP hD hS => ?_)
            have hPD : WD G DA (wX9 G h0 a0 wk f0 A0 ++ (wX7 G (a0 0) a1 q_1.2.2 A1 ++ ([((a0 5), .inl (G.2.2.2, 8, .inr (.inr (.inr (.inr (fun k => some (va_up g2 1 (a0 10) k))))))), (g2 0, .inr (0, [.ref (aB2 0 0), .int (fB2 0 1)])), (aB2 0 0, .inl (G.2.2.1, 48, .inl (AB2 0 0))), (g2 1, .inr (0, [.ref (aB2 1 0), .int (fB2 1 1)])), (aB2 1 0, .inl (G.2.2.1, 48, .inl (AB2 1 0))), (g2 2, .inr (0, [.ref (aB2 2 0), .int (fB2 2 1)])), (aB2 2 0, .inl (G.2.2.1, 48, .inl (AB2 2 0))), (g2 3, .inr (0, [.ref (aB2 3 0), .int (fB2 3 1)])), (aB2 3 0, .inl (G.2.2.1, 48, .inl (AB2 3 0))), (g2 4, .inr (0, [.ref (aB2 4 0), .int (fB2 4 1)])), (aB2 4 0, .inl (G.2.2.1, 48, .inl (AB2 4 0))), (g2 5, .inr (0, [.ref (aB2 5 0), .int (fB2 5 1)])), (aB2 5 0, .inl (G.2.2.1, 48, .inl (AB2 5 0))), (g2 6, .inr (0, [.ref (aB2 6 0), .int (fB2 6 1)])), (aB2 6 0, .inl (G.2.2.1, 48, .inl (AB2 6 0))), (g2 7, .inr (0, [.ref (aB2 7 0), .int (fB2 7 1)])), (aB2 7 0, .inl (G.2.2.1, 48, .inl (AB2 7 0)))] ++ (wX0 G (a0 10) a3 q_1.2.1 q_1.1)))) H := ⟨hP, hD⟩
            clear hP hD
            refine lv_aload_n hx hb dX9_beat_93 rfl (lv_at hl 2 rfl) ?_
            refine lv_aload hx hb dX9_beat_94 (lv_at hl 0 rfl) ?_
            refine va_put (D := G.1) (ci := 9) (v := .ref (g2 1)) (ty := .object "IdleCrimes$Beat") (C := RX9) (T := TX9) (N := 15) hx hb hts inlX9 tyX9 tyX9_ok nmX9 hown hK hPD.1 hPD.2 hS 0 rfl rfl 10 (by decide) (hts _ gw_393) (fun _ h9 => h9) rfl (by decide +kernel) rfl rfl (Nat.le_of_ble_eq_true rfl) dX9_beat_96 (fun H locs hP hD hS => ?_)
            have hPD : WD G DA (wX9 G h0 (va_up a0 10 (g2 1)) wk f0 A0 ++ (wX7 G (a0 0) a1 q_1.2.2 A1 ++ ([((a0 5), .inl (G.2.2.2, 8, .inr (.inr (.inr (.inr (fun k => some (va_up g2 1 (a0 10) k))))))), (g2 0, .inr (0, [.ref (aB2 0 0), .int (fB2 0 1)])), (aB2 0 0, .inl (G.2.2.1, 48, .inl (AB2 0 0))), (g2 1, .inr (0, [.ref (aB2 1 0), .int (fB2 1 1)])), (aB2 1 0, .inl (G.2.2.1, 48, .inl (AB2 1 0))), (g2 2, .inr (0, [.ref (aB2 2 0), .int (fB2 2 1)])), (aB2 2 0, .inl (G.2.2.1, 48, .inl (AB2 2 0))), (g2 3, .inr (0, [.ref (aB2 3 0), .int (fB2 3 1)])), (aB2 3 0, .inl (G.2.2.1, 48, .inl (AB2 3 0))), (g2 4, .inr (0, [.ref (aB2 4 0), .int (fB2 4 1)])), (aB2 4 0, .inl (G.2.2.1, 48, .inl (AB2 4 0))), (g2 5, .inr (0, [.ref (aB2 5 0), .int (fB2 5 1)])), (aB2 5 0, .inl (G.2.2.1, 48, .inl (AB2 5 0))), (g2 6, .inr (0, [.ref (aB2 6 0), .int (fB2 6 1)])), (aB2 6 0, .inl (G.2.2.1, 48, .inl (AB2 6 0))), (g2 7, .inr (0, [.ref (aB2 7 0), .int (fB2 7 1)])), (aB2 7 0, .inl (G.2.2.1, 48, .inl (AB2 7 0)))] ++ (wX0 G (a0 10) a3 q_1.2.1 q_1.1)))) H := ⟨hP, hD⟩
            clear hP hD
            refine lv_aload_n hx hb dX9_beat_99 rfl (lv_at hl 2 rfl) ?_
            refine va_get (D := G.1) (ci := 9) (v := .ref (a0 0)) (C := RX9) (T := TX9) (N := 15) hx hb hts inlX9 hown hK hPD.1 0 rfl rfl 0 (by decide) (hts _ gw_366) (fun _ h9 => h9) rfl dX9_beat_100 ?_
            refine lv_iload_n hx hb dX9_beat_103 rfl (lv_at hl 1 rfl) ?_
            refine kVI (As := [.int (q_1.2.1 1)]) (rest := []) C0 (kt_X7_answer l G (a0 0) a1 q_1.2.2 A1 (q_1.2.1 1)) gi_V_X9_149_X7_answer (n := 1) rfl (by decide +kernel) rfl ⟨rfl, rfl, Nat.le_of_ble_eq_true rfl, Nat.le_of_ble_eq_true rfl⟩ hPD hS 2 7 rfl rfl rfl [2, 3] [0, 1, 4, 5, 6, 7, 8, 9, 10, 11, 12, 13, 14, 15, 16, 17, 18, 19, 20, 21, 22] [0, 1, 21, 22, 2, 3, 4, 5, 6, 7, 8, 9, 10, 11, 12, 13, 14, 15, 16, 17, 18, 19, 20] (wN := (wX9 G h0 (va_up a0 10 (g2 1)) wk f0 A0 ++ (wX7 G (a0 0) a1 q_1.2.2 A1 ++ ([((a0 5), .inl (G.2.2.2, 8, .inr (.inr (.inr (.inr (fun k => some (va_up g2 1 (a0 10) k))))))), (g2 0, .inr (0, [.ref (aB2 0 0), .int (fB2 0 1)])), (aB2 0 0, .inl (G.2.2.1, 48, .inl (AB2 0 0))), (g2 1, .inr (0, [.ref (aB2 1 0), .int (fB2 1 1)])), (aB2 1 0, .inl (G.2.2.1, 48, .inl (AB2 1 0))), (g2 2, .inr (0, [.ref (aB2 2 0), .int (fB2 2 1)])), (aB2 2 0, .inl (G.2.2.1, 48, .inl (AB2 2 0))), (g2 3, .inr (0, [.ref (aB2 3 0), .int (fB2 3 1)])), (aB2 3 0, .inl (G.2.2.1, 48, .inl (AB2 3 0))), (g2 4, .inr (0, [.ref (aB2 4 0), .int (fB2 4 1)])), (aB2 4 0, .inl (G.2.2.1, 48, .inl (AB2 4 0))), (g2 5, .inr (0, [.ref (aB2 5 0), .int (fB2 5 1)])), (aB2 5 0, .inl (G.2.2.1, 48, .inl (AB2 5 0))), (g2 6, .inr (0, [.ref (aB2 6 0), .int (fB2 6 1)])), (aB2 6 0, .inl (G.2.2.1, 48, .inl (AB2 6 0))), (g2 7, .inr (0, [.ref (aB2 7 0), .int (fB2 7 1)])), (aB2 7 0, .inl (G.2.2.1, 48, .inl (AB2 7 0)))] ++ (wX0 G (a0 10) a3 q_1.2.1 q_1.1))))) rfl rfl rfl rfl rfl hl.1 (Nat.le_of_ble_eq_true rfl) dX9_beat_104 (fun H locs hPD hS => ?_)
            obtain rfl := Option.some.inj h
            exact eIE ((va_up a0 10 (g2 1)), a1, (va_up g2 1 (a0 10)), (va_up aB2 1 a3), (aB2 1)) C0 hPD [0, 1, 2, 3, 4, 5, 6, 21, 22, 9, 10, 11, 12, 13, 14, 15, 16, 17, 18, 19, 20, 7, 8] rfl rfl hS rfl dX9_beat_107
          · refine lv_astore (lv' := [(4, .ref (g2 2)), (3, .int (q_1.2.1 1)), (0, .ref h0), (1, .int p1), (2, .int p2)]) hx hb dX9_beat_81 hl (by decide) rfl (fun ls hl => ?_)
            refine lv_aload_n hx hb dX9_beat_83 rfl (lv_at hl 2 rfl) ?_
            refine va_get (D := G.1) (ci := 9) (v := .ref (a0 5)) (C := RX9) (T := TX9) (N := 15) hx hb hts inlX9 hown hK hPD.1 0 rfl rfl 5 (by decide) (hts _ gw_392) (fun _ h9 => h9) rfl dX9_beat_84 ?_
            refine lv_iload_n hx hb dX9_beat_87 rfl (lv_at hl 3 rfl) ?_
            refine lv_aload_n hx hb dX9_beat_88 rfl (lv_at hl 2 rfl) ?_
            refine va_get (D := G.1) (ci := 9) (v := .ref (a0 10)) (C := RX9) (T := TX9) (N := 15) hx hb hts inlX9 hown hK hPD.1 0 rfl rfl 10 (by decide) (hts _ gw_393) (fun _ h9 => h9) rfl dX9_beat_89 ?_
            refine va_astB hx hb hK hPD.1 hPD.2 hS 4 2 21 0 rfl rfl rfl rfl hi_2 eb_3 dX9_beat_92 (fun H locs hP hD hS => ?_)
            have hPD : WD G DA (wX9 G h0 a0 wk f0 A0 ++ (wX7 G (a0 0) a1 q_1.2.2 A1 ++ ([((a0 5), .inl (G.2.2.2, 8, .inr (.inr (.inr (.inr (fun k => some (va_up g2 2 (a0 10) k))))))), (g2 0, .inr (0, [.ref (aB2 0 0), .int (fB2 0 1)])), (aB2 0 0, .inl (G.2.2.1, 48, .inl (AB2 0 0))), (g2 1, .inr (0, [.ref (aB2 1 0), .int (fB2 1 1)])), (aB2 1 0, .inl (G.2.2.1, 48, .inl (AB2 1 0))), (g2 2, .inr (0, [.ref (aB2 2 0), .int (fB2 2 1)])), (aB2 2 0, .inl (G.2.2.1, 48, .inl (AB2 2 0))), (g2 3, .inr (0, [.ref (aB2 3 0), .int (fB2 3 1)])), (aB2 3 0, .inl (G.2.2.1, 48, .inl (AB2 3 0))), (g2 4, .inr (0, [.ref (aB2 4 0), .int (fB2 4 1)])), (aB2 4 0, .inl (G.2.2.1, 48, .inl (AB2 4 0))), (g2 5, .inr (0, [.ref (aB2 5 0), .int (fB2 5 1)])), (aB2 5 0, .inl (G.2.2.1, 48, .inl (AB2 5 0))), (g2 6, .inr (0, [.ref (aB2 6 0), .int (fB2 6 1)])), (aB2 6 0, .inl (G.2.2.1, 48, .inl (AB2 6 0))), (g2 7, .inr (0, [.ref (aB2 7 0), .int (fB2 7 1)])), (aB2 7 0, .inl (G.2.2.1, 48, .inl (AB2 7 0)))] ++ (wX0 G (a0 10) a3 q_1.2.1 q_1.1)))) H := ⟨hP, hD⟩
            clear hP hD
            refine lv_aload_n hx hb dX9_beat_93 rfl (lv_at hl 2 rfl) ?_
            refine lv_aload hx hb dX9_beat_94 (lv_at hl 0 rfl) ?_
            refine va_put (D := G.1) (ci := 9) (v := .ref (g2 2)) (ty := .object "IdleCrimes$Beat") (C := RX9) (T := TX9) (N := 15) hx hb hts inlX9 tyX9 tyX9_ok nmX9 hown hK hPD.1 hPD.2 hS 0 rfl rfl 10 (by decide) (hts _ gw_393) (fun _ h9 => h9) rfl (by decide +kernel) rfl rfl (Nat.le_of_ble_eq_true rfl) dX9_beat_96 (fun H locs hP hD hS => ?_)
            have hPD : WD G DA (wX9 G h0 (va_up a0 10 (g2 2)) wk f0 A0 ++ (wX7 G (a0 0) a1 q_1.2.2 A1 ++ ([((a0 5), .inl (G.2.2.2, 8, .inr (.inr (.inr (.inr (fun k => some (va_up g2 2 (a0 10) k))))))), (g2 0, .inr (0, [.ref (aB2 0 0), .int (fB2 0 1)])), (aB2 0 0, .inl (G.2.2.1, 48, .inl (AB2 0 0))), (g2 1, .inr (0, [.ref (aB2 1 0), .int (fB2 1 1)])), (aB2 1 0, .inl (G.2.2.1, 48, .inl (AB2 1 0))), (g2 2, .inr (0, [.ref (aB2 2 0), .int (fB2 2 1)])), (aB2 2 0, .inl (G.2.2.1, 48, .inl (AB2 2 0))), (g2 3, .inr (0, [.ref (aB2 3 0), .int (fB2 3 1)])), (aB2 3 0, .inl (G.2.2.1, 48, .inl (AB2 3 0))), (g2 4, .inr (0, [.ref (aB2 4 0), .int (fB2 4 1)])), (aB2 4 0, .inl (G.2.2.1, 48, .inl (AB2 4 0))), (g2 5, .inr (0, [.ref (aB2 5 0), .int (fB2 5 1)])), (aB2 5 0, .inl (G.2.2.1, 48, .inl (AB2 5 0))), (g2 6, .inr (0, [.ref (aB2 6 0), .int (fB2 6 1)])), (aB2 6 0, .inl (G.2.2.1, 48, .inl (AB2 6 0))), (g2 7, .inr (0, [.ref (aB2 7 0), .int (fB2 7 1)])), (aB2 7 0, .inl (G.2.2.1, 48, .inl (AB2 7 0)))] ++ (wX0 G (a0 10) a3 q_1.2.1 q_1.1)))) H := ⟨hP, hD⟩
            clear hP hD
            refine lv_aload_n hx hb dX9_beat_99 rfl (lv_at hl 2 rfl) ?_
            refine va_get (D := G.1) (ci := 9) (v := .ref (a0 0)) (C := RX9) (T := TX9) (N := 15) hx hb hts inlX9 hown hK hPD.1 0 rfl rfl 0 (by decide) (hts _ gw_366) (fun _ h9 => h9) rfl dX9_beat_100 ?_
            refine lv_iload_n hx hb dX9_beat_103 rfl (lv_at hl 1 rfl) ?_
            refine kVI (As := [.int (q_1.2.1 1)]) (rest := []) C0 (kt_X7_answer l G (a0 0) a1 q_1.2.2 A1 (q_1.2.1 1)) gi_V_X9_149_X7_answer (n := 1) rfl (by decide +kernel) rfl ⟨rfl, rfl, Nat.le_of_ble_eq_true rfl, Nat.le_of_ble_eq_true rfl⟩ hPD hS 2 7 rfl rfl rfl [2, 3] [0, 1, 4, 5, 6, 7, 8, 9, 10, 11, 12, 13, 14, 15, 16, 17, 18, 19, 20, 21, 22] [0, 1, 21, 22, 2, 3, 4, 5, 6, 7, 8, 9, 10, 11, 12, 13, 14, 15, 16, 17, 18, 19, 20] (wN := (wX9 G h0 (va_up a0 10 (g2 2)) wk f0 A0 ++ (wX7 G (a0 0) a1 q_1.2.2 A1 ++ ([((a0 5), .inl (G.2.2.2, 8, .inr (.inr (.inr (.inr (fun k => some (va_up g2 2 (a0 10) k))))))), (g2 0, .inr (0, [.ref (aB2 0 0), .int (fB2 0 1)])), (aB2 0 0, .inl (G.2.2.1, 48, .inl (AB2 0 0))), (g2 1, .inr (0, [.ref (aB2 1 0), .int (fB2 1 1)])), (aB2 1 0, .inl (G.2.2.1, 48, .inl (AB2 1 0))), (g2 2, .inr (0, [.ref (aB2 2 0), .int (fB2 2 1)])), (aB2 2 0, .inl (G.2.2.1, 48, .inl (AB2 2 0))), (g2 3, .inr (0, [.ref (aB2 3 0), .int (fB2 3 1)])), (aB2 3 0, .inl (G.2.2.1, 48, .inl (AB2 3 0))), (g2 4, .inr (0, [.ref (aB2 4 0), .int (fB2 4 1)])), (aB2 4 0, .inl (G.2.2.1, 48, .inl (AB2 4 0))), (g2 5, .inr (0, [.ref (aB2 5 0), .int (fB2 5 1)])), (aB2 5 0, .inl (G.2.2.1, 48, .inl (AB2 5 0))), (g2 6, .inr (0, [.ref (aB2 6 0), .int (fB2 6 1)])), (aB2 6 0, .inl (G.2.2.1, 48, .inl (AB2 6 0))), (g2 7, .inr (0, [.ref (aB2 7 0), .int (fB2 7 1)])), (aB2 7 0, .inl (G.2.2.1, 48, .inl (AB2 7 0)))] ++ (wX0 G (a0 10) a3 q_1.2.1 q_1.1))))) rfl rfl rfl rfl rfl hl.1 (Nat.le_of_ble_eq_true rfl) dX9_beat_104 (fun H locs hPD hS => ?_)
            obtain rfl := Option.some.inj h
            exact eIE ((va_up a0 10 (g2 2)), a1, (va_up g2 2 (a0 10)), (va_up aB2 2 a3), (aB2 2)) C0 hPD [0, 1, 2, 3, 4, 5, 6, 7, 8, 21, 22, 11, 12, 13, 14, 15, 16, 17, 18, 19, 20, 9, 10] rfl rfl hS rfl dX9_beat_107
          · refine lv_astore (lv' := [(4, .ref (g2 3)), (3, .int (q_1.2.1 1)), (0, .ref h0), (1, .int p1), (2, .int p2)]) hx hb dX9_beat_81 hl (by decide) rfl (fun ls hl => ?_)
            refine lv_aload_n hx hb dX9_beat_83 rfl (lv_at hl 2 rfl) ?_
            refine va_get (D := G.1) (ci := 9) (v := .ref (a0 5)) (C := RX9) (T := TX9) (N := 15) hx hb hts inlX9 hown hK hPD.1 0 rfl rfl 5 (by decide) (hts _ gw_392) (fun _ h9 => h9) rfl dX9_beat_84 ?_
            refine lv_iload_n hx hb dX9_beat_87 rfl (lv_at hl 3 rfl) ?_
            refine lv_aload_n hx hb dX9_beat_88 rfl (lv_at hl 2 rfl) ?_
            refine va_get (D := G.1) (ci := 9) (v := .ref (a0 10)) (C := RX9) (T := TX9) (N := 15) hx hb hts inlX9 hown hK hPD.1 0 rfl rfl 10 (by decide) (hts _ gw_393) (fun _ h9 => h9) rfl dX9_beat_89 ?_
            refine va_astB hx hb hK hPD.1 hPD.2 hS 4 2 21 0 rfl rfl rfl rfl hi_2 eb_3 dX9_beat_92 (fun H locs hP hD hS => ?_)
            have hPD : WD G DA (wX9 G h0 a0 wk f0 A0 ++ (wX7 G (a0 0) a1 q_1.2.2 A1 ++ ([((a0 5), .inl (G.2.2.2, 8, .inr (.inr (.inr (.inr (fun k => some (va_up g2 3 (a0 10) k))))))), (g2 0, .inr (0, [.ref (aB2 0 0), .int (fB2 0 1)])), (aB2 0 0, .inl (G.2.2.1, 48, .inl (AB2 0 0))), (g2 1, .inr (0, [.ref (aB2 1 0), .int (fB2 1 1)])), (aB2 1 0, .inl (G.2.2.1, 48, .inl (AB2 1 0))), (g2 2, .inr (0, [.ref (aB2 2 0), .int (fB2 2 1)])), (aB2 2 0, .inl (G.2.2.1, 48, .inl (AB2 2 0))), (g2 3, .inr (0, [.ref (aB2 3 0), .int (fB2 3 1)])), (aB2 3 0, .inl (G.2.2.1, 48, .inl (AB2 3 0))), (g2 4, .inr (0, [.ref (aB2 4 0), .int (fB2 4 1)])), (aB2 4 0, .inl (G.2.2.1, 48, .inl (AB2 4 0))), (g2 5, .inr (0, [.ref (aB2 5 0), .int (fB2 5 1)])), (aB2 5 0, .inl (G.2.2.1, 48, .inl (AB2 5 0))), (g2 6, .inr (0, [.ref (aB2 6 0), .int (fB2 6 1)])), (aB2 6 0, .inl (G.2.2.1, 48, .inl (AB2 6 0))), (g2 7, .inr (0, [.ref (aB2 7 0), .int (fB2 7 1)])), (aB2 7 0, .inl (G.2.2.1, 48, .inl (AB2 7 0)))] ++ (wX0 G (a0 10) a3 q_1.2.1 q_1.1)))) H := ⟨hP, hD⟩
            clear hP hD
            refine lv_aload_n hx hb dX9_beat_93 rfl (lv_at hl 2 rfl) ?_
            refine lv_aload hx hb dX9_beat_94 (lv_at hl 0 rfl) ?_
            refine va_put (D := G.1) (ci := 9) (v := .ref (g2 3)) (ty := .object "IdleCrimes$Beat") (C := RX9) (T := TX9) (N := 15) hx hb hts inlX9 tyX9 tyX9_ok nmX9 hown hK hPD.1 hPD.2 hS 0 rfl rfl 10 (by decide) (hts _ gw_393) (fun _ h9 => h9) rfl (by decide +kernel) rfl rfl (Nat.le_of_ble_eq_true rfl) dX9_beat_96 (fun H locs hP hD hS => ?_)
            have hPD : WD G DA (wX9 G h0 (va_up a0 10 (g2 3)) wk f0 A0 ++ (wX7 G (a0 0) a1 q_1.2.2 A1 ++ ([((a0 5), .inl (G.2.2.2, 8, .inr (.inr (.inr (.inr (fun k => some (va_up g2 3 (a0 10) k))))))), (g2 0, .inr (0, [.ref (aB2 0 0), .int (fB2 0 1)])), (aB2 0 0, .inl (G.2.2.1, 48, .inl (AB2 0 0))), (g2 1, .inr (0, [.ref (aB2 1 0), .int (fB2 1 1)])), (aB2 1 0, .inl (G.2.2.1, 48, .inl (AB2 1 0))), (g2 2, .inr (0, [.ref (aB2 2 0), .int (fB2 2 1)])), (aB2 2 0, .inl (G.2.2.1, 48, .inl (AB2 2 0))), (g2 3, .inr (0, [.ref (aB2 3 0), .int (fB2 3 1)])), (aB2 3 0, .inl (G.2.2.1, 48, .inl (AB2 3 0))), (g2 4, .inr (0, [.ref (aB2 4 0), .int (fB2 4 1)])), (aB2 4 0, .inl (G.2.2.1, 48, .inl (AB2 4 0))), (g2 5, .inr (0, [.ref (aB2 5 0), .int (fB2 5 1)])), (aB2 5 0, .inl (G.2.2.1, 48, .inl (AB2 5 0))), (g2 6, .inr (0, [.ref (aB2 6 0), .int (fB2 6 1)])), (aB2 6 0, .inl (G.2.2.1, 48, .inl (AB2 6 0))), (g2 7, .inr (0, [.ref (aB2 7 0), .int (fB2 7 1)])), (aB2 7 0, .inl (G.2.2.1, 48, .inl (AB2 7 0)))] ++ (wX0 G (a0 10) a3 q_1.2.1 q_1.1)))) H := ⟨hP, hD⟩
            clear hP hD
            refine lv_aload_n hx hb dX9_beat_99 rfl (lv_at hl 2 rfl) ?_
            refine va_get (D := G.1) (ci := 9) (v := .ref (a0 0)) (C := RX9) (T := TX9) (N := 15) hx hb hts inlX9 hown hK hPD.1 0 rfl rfl 0 (by decide) (hts _ gw_366) (fun _ h9 => h9) rfl dX9_beat_100 ?_
            refine lv_iload_n hx hb dX9_beat_103 rfl (lv_at hl 1 rfl) ?_
            refine kVI (As := [.int (q_1.2.1 1)]) (rest := []) C0 (kt_X7_answer l G (a0 0) a1 q_1.2.2 A1 (q_1.2.1 1)) gi_V_X9_149_X7_answer (n := 1) rfl (by decide +kernel) rfl ⟨rfl, rfl, Nat.le_of_ble_eq_true rfl, Nat.le_of_ble_eq_true rfl⟩ hPD hS 2 7 rfl rfl rfl [2, 3] [0, 1, 4, 5, 6, 7, 8, 9, 10, 11, 12, 13, 14, 15, 16, 17, 18, 19, 20, 21, 22] [0, 1, 21, 22, 2, 3, 4, 5, 6, 7, 8, 9, 10, 11, 12, 13, 14, 15, 16, 17, 18, 19, 20] (wN := (wX9 G h0 (va_up a0 10 (g2 3)) wk f0 A0 ++ (wX7 G (a0 0) a1 q_1.2.2 A1 ++ ([((a0 5), .inl (G.2.2.2, 8, .inr (.inr (.inr (.inr (fun k => some (va_up g2 3 (a0 10) k))))))), (g2 0, .inr (0, [.ref (aB2 0 0), .int (fB2 0 1)])), (aB2 0 0, .inl (G.2.2.1, 48, .inl (AB2 0 0))), (g2 1, .inr (0, [.ref (aB2 1 0), .int (fB2 1 1)])), (aB2 1 0, .inl (G.2.2.1, 48, .inl (AB2 1 0))), (g2 2, .inr (0, [.ref (aB2 2 0), .int (fB2 2 1)])), (aB2 2 0, .inl (G.2.2.1, 48, .inl (AB2 2 0))), (g2 3, .inr (0, [.ref (aB2 3 0), .int (fB2 3 1)])), (aB2 3 0, .inl (G.2.2.1, 48, .inl (AB2 3 0))), (g2 4, .inr (0, [.ref (aB2 4 0), .int (fB2 4 1)])), (aB2 4 0, .inl (G.2.2.1, 48, .inl (AB2 4 0))), (g2 5, .inr (0, [.ref (aB2 5 0), .int (fB2 5 1)])), (aB2 5 0, .inl (G.2.2.1, 48, .inl (AB2 5 0))), (g2 6, .inr (0, [.ref (aB2 6 0), .int (fB2 6 1)])), (aB2 6 0, .inl (G.2.2.1, 48, .inl (AB2 6 0))), (g2 7, .inr (0, [.ref (aB2 7 0), .int (fB2 7 1)])), (aB2 7 0, .inl (G.2.2.1, 48, .inl (AB2 7 0)))] ++ (wX0 G (a0 10) a3 q_1.2.1 q_1.1))))) rfl rfl rfl rfl rfl hl.1 (Nat.le_of_ble_eq_true rfl) dX9_beat_104 (fun H locs hPD hS => ?_)
            obtain rfl := Option.some.inj h
            exact eIE ((va_up a0 10 (g2 3)), a1, (va_up g2 3 (a0 10)), (va_up aB2 3 a3), (aB2 3)) C0 hPD [0, 1, 2, 3, 4, 5, 6, 7, 8, 9, 10, 21, 22, 13, 14, 15, 16, 17, 18, 19, 20, 11, 12] rfl rfl hS rfl dX9_beat_107
          · refine lv_astore (lv' := [(4, .ref (g2 4)), (3, .int (q_1.2.1 1)), (0, .ref h0), (1, .int p1), (2, .int p2)]) hx hb dX9_beat_81 hl (by decide) rfl (fun ls hl => ?_)
            refine lv_aload_n hx hb dX9_beat_83 rfl (lv_at hl 2 rfl) ?_
            refine va_get (D := G.1) (ci := 9) (v := .ref (a0 5)) (C := RX9) (T := TX9) (N := 15) hx hb hts inlX9 hown hK hPD.1 0 rfl rfl 5 (by decide) (hts _ gw_392) (fun _ h9 => h9) rfl dX9_beat_84 ?_
            refine lv_iload_n hx hb dX9_beat_87 rfl (lv_at hl 3 rfl) ?_
            refine lv_aload_n hx hb dX9_beat_88 rfl (lv_at hl 2 rfl) ?_
            refine va_get (D := G.1) (ci := 9) (v := .ref (a0 10)) (C := RX9) (T := TX9) (N := 15) hx hb hts inlX9 hown hK hPD.1 0 rfl rfl 10 (by decide) (hts _ gw_393) (fun _ h9 => h9) rfl dX9_beat_89 ?_
            refine va_astB hx hb hK hPD.1 hPD.2 hS 4 2 21 0 rfl rfl rfl rfl hi_2 eb_3 dX9_beat_92 (fun H locs hP hD hS => ?_)
            have hPD : WD G DA (wX9 G h0 a0 wk f0 A0 ++ (wX7 G (a0 0) a1 q_1.2.2 A1 ++ ([((a0 5), .inl (G.2.2.2, 8, .inr (.inr (.inr (.inr (fun k => some (va_up g2 4 (a0 10) k))))))), (g2 0, .inr (0, [.ref (aB2 0 0), .int (fB2 0 1)])), (aB2 0 0, .inl (G.2.2.1, 48, .inl (AB2 0 0))), (g2 1, .inr (0, [.ref (aB2 1 0), .int (fB2 1 1)])), (aB2 1 0, .inl (G.2.2.1, 48, .inl (AB2 1 0))), (g2 2, .inr (0, [.ref (aB2 2 0), .int (fB2 2 1)])), (aB2 2 0, .inl (G.2.2.1, 48, .inl (AB2 2 0))), (g2 3, .inr (0, [.ref (aB2 3 0), .int (fB2 3 1)])), (aB2 3 0, .inl (G.2.2.1, 48, .inl (AB2 3 0))), (g2 4, .inr (0, [.ref (aB2 4 0), .int (fB2 4 1)])), (aB2 4 0, .inl (G.2.2.1, 48, .inl (AB2 4 0))), (g2 5, .inr (0, [.ref (aB2 5 0), .int (fB2 5 1)])), (aB2 5 0, .inl (G.2.2.1, 48, .inl (AB2 5 0))), (g2 6, .inr (0, [.ref (aB2 6 0), .int (fB2 6 1)])), (aB2 6 0, .inl (G.2.2.1, 48, .inl (AB2 6 0))), (g2 7, .inr (0, [.ref (aB2 7 0), .int (fB2 7 1)])), (aB2 7 0, .inl (G.2.2.1, 48, .inl (AB2 7 0)))] ++ (wX0 G (a0 10) a3 q_1.2.1 q_1.1)))) H := ⟨hP, hD⟩
            clear hP hD
            refine lv_aload_n hx hb dX9_beat_93 rfl (lv_at hl 2 rfl) ?_
            refine lv_aload hx hb dX9_beat_94 (lv_at hl 0 rfl) ?_
            refine va_put (D := G.1) (ci := 9) (v := .ref (g2 4)) (ty := .object "IdleCrimes$Beat") (C := RX9) (T := TX9) (N := 15) hx hb hts inlX9 tyX9 tyX9_ok nmX9 hown hK hPD.1 hPD.2 hS 0 rfl rfl 10 (by decide) (hts _ gw_393) (fun _ h9 => h9) rfl (by decide +kernel) rfl rfl (Nat.le_of_ble_eq_true rfl) dX9_beat_96 (fun H locs hP hD hS => ?_)
            have hPD : WD G DA (wX9 G h0 (va_up a0 10 (g2 4)) wk f0 A0 ++ (wX7 G (a0 0) a1 q_1.2.2 A1 ++ ([((a0 5), .inl (G.2.2.2, 8, .inr (.inr (.inr (.inr (fun k => some (va_up g2 4 (a0 10) k))))))), (g2 0, .inr (0, [.ref (aB2 0 0), .int (fB2 0 1)])), (aB2 0 0, .inl (G.2.2.1, 48, .inl (AB2 0 0))), (g2 1, .inr (0, [.ref (aB2 1 0), .int (fB2 1 1)])), (aB2 1 0, .inl (G.2.2.1, 48, .inl (AB2 1 0))), (g2 2, .inr (0, [.ref (aB2 2 0), .int (fB2 2 1)])), (aB2 2 0, .inl (G.2.2.1, 48, .inl (AB2 2 0))), (g2 3, .inr (0, [.ref (aB2 3 0), .int (fB2 3 1)])), (aB2 3 0, .inl (G.2.2.1, 48, .inl (AB2 3 0))), (g2 4, .inr (0, [.ref (aB2 4 0), .int (fB2 4 1)])), (aB2 4 0, .inl (G.2.2.1, 48, .inl (AB2 4 0))), (g2 5, .inr (0, [.ref (aB2 5 0), .int (fB2 5 1)])), (aB2 5 0, .inl (G.2.2.1, 48, .inl (AB2 5 0))), (g2 6, .inr (0, [.ref (aB2 6 0), .int (fB2 6 1)])), (aB2 6 0, .inl (G.2.2.1, 48, .inl (AB2 6 0))), (g2 7, .inr (0, [.ref (aB2 7 0), .int (fB2 7 1)])), (aB2 7 0, .inl (G.2.2.1, 48, .inl (AB2 7 0)))] ++ (wX0 G (a0 10) a3 q_1.2.1 q_1.1)))) H := ⟨hP, hD⟩
            clear hP hD
            refine lv_aload_n hx hb dX9_beat_99 rfl (lv_at hl 2 rfl) ?_
            refine va_get (D := G.1) (ci := 9) (v := .ref (a0 0)) (C := RX9) (T := TX9) (N := 15) hx hb hts inlX9 hown hK hPD.1 0 rfl rfl 0 (by decide) (hts _ gw_366) (fun _ h9 => h9) rfl dX9_beat_100 ?_
            refine lv_iload_n hx hb dX9_beat_103 rfl (lv_at hl 1 rfl) ?_
            refine kVI (As := [.int (q_1.2.1 1)]) (rest := []) C0 (kt_X7_answer l G (a0 0) a1 q_1.2.2 A1 (q_1.2.1 1)) gi_V_X9_149_X7_answer (n := 1) rfl (by decide +kernel) rfl ⟨rfl, rfl, Nat.le_of_ble_eq_true rfl, Nat.le_of_ble_eq_true rfl⟩ hPD hS 2 7 rfl rfl rfl [2, 3] [0, 1, 4, 5, 6, 7, 8, 9, 10, 11, 12, 13, 14, 15, 16, 17, 18, 19, 20, 21, 22] [0, 1, 21, 22, 2, 3, 4, 5, 6, 7, 8, 9, 10, 11, 12, 13, 14, 15, 16, 17, 18, 19, 20] (wN := (wX9 G h0 (va_up a0 10 (g2 4)) wk f0 A0 ++ (wX7 G (a0 0) a1 q_1.2.2 A1 ++ ([((a0 5), .inl (G.2.2.2, 8, .inr (.inr (.inr (.inr (fun k => some (va_up g2 4 (a0 10) k))))))), (g2 0, .inr (0, [.ref (aB2 0 0), .int (fB2 0 1)])), (aB2 0 0, .inl (G.2.2.1, 48, .inl (AB2 0 0))), (g2 1, .inr (0, [.ref (aB2 1 0), .int (fB2 1 1)])), (aB2 1 0, .inl (G.2.2.1, 48, .inl (AB2 1 0))), (g2 2, .inr (0, [.ref (aB2 2 0), .int (fB2 2 1)])), (aB2 2 0, .inl (G.2.2.1, 48, .inl (AB2 2 0))), (g2 3, .inr (0, [.ref (aB2 3 0), .int (fB2 3 1)])), (aB2 3 0, .inl (G.2.2.1, 48, .inl (AB2 3 0))), (g2 4, .inr (0, [.ref (aB2 4 0), .int (fB2 4 1)])), (aB2 4 0, .inl (G.2.2.1, 48, .inl (AB2 4 0))), (g2 5, .inr (0, [.ref (aB2 5 0), .int (fB2 5 1)])), (aB2 5 0, .inl (G.2.2.1, 48, .inl (AB2 5 0))), (g2 6, .inr (0, [.ref (aB2 6 0), .int (fB2 6 1)])), (aB2 6 0, .inl (G.2.2.1, 48, .inl (AB2 6 0))), (g2 7, .inr (0, [.ref (aB2 7 0), .int (fB2 7 1)])), (aB2 7 0, .inl (G.2.2.1, 48, .inl (AB2 7 0)))] ++ (wX0 G (a0 10) a3 q_1.2.1 q_1.1))))) rfl rfl rfl rfl rfl hl.1 (Nat.le_of_ble_eq_true rfl) dX9_beat_104 (fun H locs hPD hS => ?_)
            obtain rfl := Option.some.inj h
            exact eIE ((va_up a0 10 (g2 4)), a1, (va_up g2 4 (a0 10)), (va_up aB2 4 a3), (aB2 4)) C0 hPD [0, 1, 2, 3, 4, 5, 6, 7, 8, 9, 10, 11, 12, 21, 22, 15, 16, 17, 18, 19, 20, 13, 14] rfl rfl hS rfl dX9_beat_107
          · refine lv_astore (lv' := [(4, .ref (g2 5)), (3, .int (q_1.2.1 1)), (0, .ref h0), (1, .int p1), (2, .int p2)]) hx hb dX9_beat_81 hl (by decide) rfl (fun ls hl => ?_)
            refine lv_aload_n hx hb dX9_beat_83 rfl (lv_at hl 2 rfl) ?_
            refine va_get (D := G.1) (ci := 9) (v := .ref (a0 5)) (C := RX9) (T := TX9) (N := 15) hx hb hts inlX9 hown hK hPD.1 0 rfl rfl 5 (by decide) (hts _ gw_392) (fun _ h9 => h9) rfl dX9_beat_84 ?_
            refine lv_iload_n hx hb dX9_beat_87 rfl (lv_at hl 3 rfl) ?_
            refine lv_aload_n hx hb dX9_beat_88 rfl (lv_at hl 2 rfl) ?_
            refine va_get (D := G.1) (ci := 9) (v := .ref (a0 10)) (C := RX9) (T := TX9) (N := 15) hx hb hts inlX9 hown hK hPD.1 0 rfl rfl 10 (by decide) (hts _ gw_393) (fun _ h9 => h9) rfl dX9_beat_89 ?_
            refine va_astB hx hb hK hPD.1 hPD.2 hS 4 2 21 0 rfl rfl rfl rfl hi_2 eb_3 dX9_beat_92 (fun H locs hP hD hS => ?_)
            have hPD : WD G DA (wX9 G h0 a0 wk f0 A0 ++ (wX7 G (a0 0) a1 q_1.2.2 A1 ++ ([((a0 5), .inl (G.2.2.2, 8, .inr (.inr (.inr (.inr (fun k => some (va_up g2 5 (a0 10) k))))))), (g2 0, .inr (0, [.ref (aB2 0 0), .int (fB2 0 1)])), (aB2 0 0, .inl (G.2.2.1, 48, .inl (AB2 0 0))), (g2 1, .inr (0, [.ref (aB2 1 0), .int (fB2 1 1)])), (aB2 1 0, .inl (G.2.2.1, 48, .inl (AB2 1 0))), (g2 2, .inr (0, [.ref (aB2 2 0), .int (fB2 2 1)])), (aB2 2 0, .inl (G.2.2.1, 48, .inl (AB2 2 0))), (g2 3, .inr (0, [.ref (aB2 3 0), .int (fB2 3 1)])), (aB2 3 0, .inl (G.2.2.1, 48, .inl (AB2 3 0))), (g2 4, .inr (0, [.ref (aB2 4 0), .int (fB2 4 1)])), (aB2 4 0, .inl (G.2.2.1, 48, .inl (AB2 4 0))), (g2 5, .inr (0, [.ref (aB2 5 0), .int (fB2 5 1)])), (aB2 5 0, .inl (G.2.2.1, 48, .inl (AB2 5 0))), (g2 6, .inr (0, [.ref (aB2 6 0), .int (fB2 6 1)])), (aB2 6 0, .inl (G.2.2.1, 48, .inl (AB2 6 0))), (g2 7, .inr (0, [.ref (aB2 7 0), .int (fB2 7 1)])), (aB2 7 0, .inl (G.2.2.1, 48, .inl (AB2 7 0)))] ++ (wX0 G (a0 10) a3 q_1.2.1 q_1.1)))) H := ⟨hP, hD⟩
            clear hP hD
            refine lv_aload_n hx hb dX9_beat_93 rfl (lv_at hl 2 rfl) ?_
            refine lv_aload hx hb dX9_beat_94 (lv_at hl 0 rfl) ?_
            refine va_put (D := G.1) (ci := 9) (v := .ref (g2 5)) (ty := .object "IdleCrimes$Beat") (C := RX9) (T := TX9) (N := 15) hx hb hts inlX9 tyX9 tyX9_ok nmX9 hown hK hPD.1 hPD.2 hS 0 rfl rfl 10 (by decide) (hts _ gw_393) (fun _ h9 => h9) rfl (by decide +kernel) rfl rfl (Nat.le_of_ble_eq_true rfl) dX9_beat_96 (fun H locs hP hD hS => ?_)
            have hPD : WD G DA (wX9 G h0 (va_up a0 10 (g2 5)) wk f0 A0 ++ (wX7 G (a0 0) a1 q_1.2.2 A1 ++ ([((a0 5), .inl (G.2.2.2, 8, .inr (.inr (.inr (.inr (fun k => some (va_up g2 5 (a0 10) k))))))), (g2 0, .inr (0, [.ref (aB2 0 0), .int (fB2 0 1)])), (aB2 0 0, .inl (G.2.2.1, 48, .inl (AB2 0 0))), (g2 1, .inr (0, [.ref (aB2 1 0), .int (fB2 1 1)])), (aB2 1 0, .inl (G.2.2.1, 48, .inl (AB2 1 0))), (g2 2, .inr (0, [.ref (aB2 2 0), .int (fB2 2 1)])), (aB2 2 0, .inl (G.2.2.1, 48, .inl (AB2 2 0))), (g2 3, .inr (0, [.ref (aB2 3 0), .int (fB2 3 1)])), (aB2 3 0, .inl (G.2.2.1, 48, .inl (AB2 3 0))), (g2 4, .inr (0, [.ref (aB2 4 0), .int (fB2 4 1)])), (aB2 4 0, .inl (G.2.2.1, 48, .inl (AB2 4 0))), (g2 5, .inr (0, [.ref (aB2 5 0), .int (fB2 5 1)])), (aB2 5 0, .inl (G.2.2.1, 48, .inl (AB2 5 0))), (g2 6, .inr (0, [.ref (aB2 6 0), .int (fB2 6 1)])), (aB2 6 0, .inl (G.2.2.1, 48, .inl (AB2 6 0))), (g2 7, .inr (0, [.ref (aB2 7 0), .int (fB2 7 1)])), (aB2 7 0, .inl (G.2.2.1, 48, .inl (AB2 7 0)))] ++ (wX0 G (a0 10) a3 q_1.2.1 q_1.1)))) H := ⟨hP, hD⟩
            clear hP hD
            refine lv_aload_n hx hb dX9_beat_99 rfl (lv_at hl 2 rfl) ?_
            refine va_get (D := G.1) (ci := 9) (v := .ref (a0 0)) (C := RX9) (T := TX9) (N := 15) hx hb hts inlX9 hown hK hPD.1 0 rfl rfl 0 (by decide) (hts _ gw_366) (fun _ h9 => h9) rfl dX9_beat_100 ?_
            refine lv_iload_n hx hb dX9_beat_103 rfl (lv_at hl 1 rfl) ?_
            refine kVI (As := [.int (q_1.2.1 1)]) (rest := []) C0 (kt_X7_answer l G (a0 0) a1 q_1.2.2 A1 (q_1.2.1 1)) gi_V_X9_149_X7_answer (n := 1) rfl (by decide +kernel) rfl ⟨rfl, rfl, Nat.le_of_ble_eq_true rfl, Nat.le_of_ble_eq_true rfl⟩ hPD hS 2 7 rfl rfl rfl [2, 3] [0, 1, 4, 5, 6, 7, 8, 9, 10, 11, 12, 13, 14, 15, 16, 17, 18, 19, 20, 21, 22] [0, 1, 21, 22, 2, 3, 4, 5, 6, 7, 8, 9, 10, 11, 12, 13, 14, 15, 16, 17, 18, 19, 20] (wN := (wX9 G h0 (va_up a0 10 (g2 5)) wk f0 A0 ++ (wX7 G (a0 0) a1 q_1.2.2 A1 ++ ([((a0 5), .inl (G.2.2.2, 8, .inr (.inr (.inr (.inr (fun k => some (va_up g2 5 (a0 10) k))))))), (g2 0, .inr (0, [.ref (aB2 0 0), .int (fB2 0 1)])), (aB2 0 0, .inl (G.2.2.1, 48, .inl (AB2 0 0))), (g2 1, .inr (0, [.ref (aB2 1 0), .int (fB2 1 1)])), (aB2 1 0, .inl (G.2.2.1, 48, .inl (AB2 1 0))), (g2 2, .inr (0, [.ref (aB2 2 0), .int (fB2 2 1)])), (aB2 2 0, .inl (G.2.2.1, 48, .inl (AB2 2 0))), (g2 3, .inr (0, [.ref (aB2 3 0), .int (fB2 3 1)])), (aB2 3 0, .inl (G.2.2.1, 48, .inl (AB2 3 0))), (g2 4, .inr (0, [.ref (aB2 4 0), .int (fB2 4 1)])), (aB2 4 0, .inl (G.2.2.1, 48, .inl (AB2 4 0))), (g2 5, .inr (0, [.ref (aB2 5 0), .int (fB2 5 1)])), (aB2 5 0, .inl (G.2.2.1, 48, .inl (AB2 5 0))), (g2 6, .inr (0, [.ref (aB2 6 0), .int (fB2 6 1)])), (aB2 6 0, .inl (G.2.2.1, 48, .inl (AB2 6 0))), (g2 7, .inr (0, [.ref (aB2 7 0), .int (fB2 7 1)])), (aB2 7 0, .inl (G.2.2.1, 48, .inl (AB2 7 0)))] ++ (wX0 G (a0 10) a3 q_1.2.1 q_1.1))))) rfl rfl rfl rfl rfl hl.1 (Nat.le_of_ble_eq_true rfl) dX9_beat_104 (fun H locs hPD hS => ?_)
            obtain rfl := Option.some.inj h
            exact eIE ((va_up a0 10 (g2 5)), a1, (va_up g2 5 (a0 10)), (va_up aB2 5 a3), (aB2 5)) C0 hPD [0, 1, 2, 3, 4, 5, 6, 7, 8, 9, 10, 11, 12, 13, 14, 21, 22, 17, 18, 19, 20, 15, 16] rfl rfl hS rfl dX9_beat_107
          · refine lv_astore (lv' := [(4, .ref (g2 6)), (3, .int (q_1.2.1 1)), (0, .ref h0), (1, .int p1), (2, .int p2)]) hx hb dX9_beat_81 hl (by decide) rfl (fun ls hl => ?_)
            refine lv_aload_n hx hb dX9_beat_83 rfl (lv_at hl 2 rfl) ?_
            refine va_get (D := G.1) (ci := 9) (v := .ref (a0 5)) (C := RX9) (T := TX9) (N := 15) hx hb hts inlX9 hown hK hPD.1 0 rfl rfl 5 (by decide) (hts _ gw_392) (fun _ h9 => h9) rfl dX9_beat_84 ?_
            refine lv_iload_n hx hb dX9_beat_87 rfl (lv_at hl 3 rfl) ?_
            refine lv_aload_n hx hb dX9_beat_88 rfl (lv_at hl 2 rfl) ?_
            refine va_get (D := G.1) (ci := 9) (v := .ref (a0 10)) (C := RX9) (T := TX9) (N := 15) hx hb hts inlX9 hown hK hPD.1 0 rfl rfl 10 (by decide) (hts _ gw_393) (fun _ h9 => h9) rfl dX9_beat_89 ?_
            refine va_astB hx hb hK hPD.1 hPD.2 hS 4 2 21 0 rfl rfl rfl rfl hi_2 eb_3 dX9_beat_92 (fun H locs hP hD hS => ?_)
            have hPD : WD G DA (wX9 G h0 a0 wk f0 A0 ++ (wX7 G (a0 0) a1 q_1.2.2 A1 ++ ([((a0 5), .inl (G.2.2.2, 8, .inr (.inr (.inr (.inr (fun k => some (va_up g2 6 (a0 10) k))))))), (g2 0, .inr (0, [.ref (aB2 0 0), .int (fB2 0 1)])), (aB2 0 0, .inl (G.2.2.1, 48, .inl (AB2 0 0))), (g2 1, .inr (0, [.ref (aB2 1 0), .int (fB2 1 1)])), (aB2 1 0, .inl (G.2.2.1, 48, .inl (AB2 1 0))), (g2 2, .inr (0, [.ref (aB2 2 0), .int (fB2 2 1)])), (aB2 2 0, .inl (G.2.2.1, 48, .inl (AB2 2 0))), (g2 3, .inr (0, [.ref (aB2 3 0), .int (fB2 3 1)])), (aB2 3 0, .inl (G.2.2.1, 48, .inl (AB2 3 0))), (g2 4, .inr (0, [.ref (aB2 4 0), .int (fB2 4 1)])), (aB2 4 0, .inl (G.2.2.1, 48, .inl (AB2 4 0))), (g2 5, .inr (0, [.ref (aB2 5 0), .int (fB2 5 1)])), (aB2 5 0, .inl (G.2.2.1, 48, .inl (AB2 5 0))), (g2 6, .inr (0, [.ref (aB2 6 0), .int (fB2 6 1)])), (aB2 6 0, .inl (G.2.2.1, 48, .inl (AB2 6 0))), (g2 7, .inr (0, [.ref (aB2 7 0), .int (fB2 7 1)])), (aB2 7 0, .inl (G.2.2.1, 48, .inl (AB2 7 0)))] ++ (wX0 G (a0 10) a3 q_1.2.1 q_1.1)))) H := ⟨hP, hD⟩
            clear hP hD
            refine lv_aload_n hx hb dX9_beat_93 rfl (lv_at hl 2 rfl) ?_
            refine lv_aload hx hb dX9_beat_94 (lv_at hl 0 rfl) ?_
            refine va_put (D := G.1) (ci := 9) (v := .ref (g2 6)) (ty := .object "IdleCrimes$Beat") (C := RX9) (T := TX9) (N := 15) hx hb hts inlX9 tyX9 tyX9_ok nmX9 hown hK hPD.1 hPD.2 hS 0 rfl rfl 10 (by decide) (hts _ gw_393) (fun _ h9 => h9) rfl (by decide +kernel) rfl rfl (Nat.le_of_ble_eq_true rfl) dX9_beat_96 (fun H locs hP hD hS => ?_)
            have hPD : WD G DA (wX9 G h0 (va_up a0 10 (g2 6)) wk f0 A0 ++ (wX7 G (a0 0) a1 q_1.2.2 A1 ++ ([((a0 5), .inl (G.2.2.2, 8, .inr (.inr (.inr (.inr (fun k => some (va_up g2 6 (a0 10) k))))))), (g2 0, .inr (0, [.ref (aB2 0 0), .int (fB2 0 1)])), (aB2 0 0, .inl (G.2.2.1, 48, .inl (AB2 0 0))), (g2 1, .inr (0, [.ref (aB2 1 0), .int (fB2 1 1)])), (aB2 1 0, .inl (G.2.2.1, 48, .inl (AB2 1 0))), (g2 2, .inr (0, [.ref (aB2 2 0), .int (fB2 2 1)])), (aB2 2 0, .inl (G.2.2.1, 48, .inl (AB2 2 0))), (g2 3, .inr (0, [.ref (aB2 3 0), .int (fB2 3 1)])), (aB2 3 0, .inl (G.2.2.1, 48, .inl (AB2 3 0))), (g2 4, .inr (0, [.ref (aB2 4 0), .int (fB2 4 1)])), (aB2 4 0, .inl (G.2.2.1, 48, .inl (AB2 4 0))), (g2 5, .inr (0, [.ref (aB2 5 0), .int (fB2 5 1)])), (aB2 5 0, .inl (G.2.2.1, 48, .inl (AB2 5 0))), (g2 6, .inr (0, [.ref (aB2 6 0), .int (fB2 6 1)])), (aB2 6 0, .inl (G.2.2.1, 48, .inl (AB2 6 0))), (g2 7, .inr (0, [.ref (aB2 7 0), .int (fB2 7 1)])), (aB2 7 0, .inl (G.2.2.1, 48, .inl (AB2 7 0)))] ++ (wX0 G (a0 10) a3 q_1.2.1 q_1.1)))) H := ⟨hP, hD⟩
            clear hP hD
            refine lv_aload_n hx hb dX9_beat_99 rfl (lv_at hl 2 rfl) ?_
            refine va_get (D := G.1) (ci := 9) (v := .ref (a0 0)) (C := RX9) (T := TX9) (N := 15) hx hb hts inlX9 hown hK hPD.1 0 rfl rfl 0 (by decide) (hts _ gw_366) (fun _ h9 => h9) rfl dX9_beat_100 ?_
            refine lv_iload_n hx hb dX9_beat_103 rfl (lv_at hl 1 rfl) ?_
            refine kVI (As := [.int (q_1.2.1 1)]) (rest := []) C0 (kt_X7_answer l G (a0 0) a1 q_1.2.2 A1 (q_1.2.1 1)) gi_V_X9_149_X7_answer (n := 1) rfl (by decide +kernel) rfl ⟨rfl, rfl, Nat.le_of_ble_eq_true rfl, Nat.le_of_ble_eq_true rfl⟩ hPD hS 2 7 rfl rfl rfl [2, 3] [0, 1, 4, 5, 6, 7, 8, 9, 10, 11, 12, 13, 14, 15, 16, 17, 18, 19, 20, 21, 22] [0, 1, 21, 22, 2, 3, 4, 5, 6, 7, 8, 9, 10, 11, 12, 13, 14, 15, 16, 17, 18, 19, 20] (wN := (wX9 G h0 (va_up a0 10 (g2 6)) wk f0 A0 ++ (wX7 G (a0 0) a1 q_1.2.2 A1 ++ ([((a0 5), .inl (G.2.2.2, 8, .inr (.inr (.inr (.inr (fun k => some (va_up g2 6 (a0 10) k))))))), (g2 0, .inr (0, [.ref (aB2 0 0), .int (fB2 0 1)])), (aB2 0 0, .inl (G.2.2.1, 48, .inl (AB2 0 0))), (g2 1, .inr (0, [.ref (aB2 1 0), .int (fB2 1 1)])), (aB2 1 0, .inl (G.2.2.1, 48, .inl (AB2 1 0))), (g2 2, .inr (0, [.ref (aB2 2 0), .int (fB2 2 1)])), (aB2 2 0, .inl (G.2.2.1, 48, .inl (AB2 2 0))), (g2 3, .inr (0, [.ref (aB2 3 0), .int (fB2 3 1)])), (aB2 3 0, .inl (G.2.2.1, 48, .inl (AB2 3 0))), (g2 4, .inr (0, [.ref (aB2 4 0), .int (fB2 4 1)])), (aB2 4 0, .inl (G.2.2.1, 48, .inl (AB2 4 0))), (g2 5, .inr (0, [.ref (aB2 5 0), .int (fB2 5 1)])), (aB2 5 0, .inl (G.2.2.1, 48, .inl (AB2 5 0))), (g2 6, .inr (0, [.ref (aB2 6 0), .int (fB2 6 1)])), (aB2 6 0, .inl (G.2.2.1, 48, .inl (AB2 6 0))), (g2 7, .inr (0, [.ref (aB2 7 0), .int (fB2 7 1)])), (aB2 7 0, .inl (G.2.2.1, 48, .inl (AB2 7 0)))] ++ (wX0 G (a0 10) a3 q_1.2.1 q_1.1))))) rfl rfl rfl rfl rfl hl.1 (Nat.le_of_ble_eq_true rfl) dX9_beat_104 (fun H locs hPD hS => ?_)
            obtain rfl := Option.some.inj h
            exact eIE ((va_up a0 10 (g2 6)), a1, (va_up g2 6 (a0 10)), (va_up aB2 6 a3), (aB2 6)) C0 hPD [0, 1, 2, 3, 4, 5, 6, 7, 8, 9, 10, 11, 12, 13, 14, 15, 16, 21, 22, 19, 20, 17, 18] rfl rfl hS rfl dX9_beat_107
          · refine lv_astore (lv' := [(4, .ref (g2 7)), (3, .int (q_1.2.1 1)), (0, .ref h0), (1, .int p1), (2, .int p2)]) hx hb dX9_beat_81 hl (by decide) rfl (fun ls hl => ?_)
            refine lv_aload_n hx hb dX9_beat_83 rfl (lv_at hl 2 rfl) ?_
            refine va_get (D := G.1) (ci := 9) (v := .ref (a0 5)) (C := RX9) (T := TX9) (N := 15) hx hb hts inlX9 hown hK hPD.1 0 rfl rfl 5 (by decide) (hts _ gw_392) (fun _ h9 => h9) rfl dX9_beat_84 ?_
            refine lv_iload_n hx hb dX9_beat_87 rfl (lv_at hl 3 rfl) ?_
            refine lv_aload_n hx hb dX9_beat_88 rfl (lv_at hl 2 rfl) ?_
            refine va_get (D := G.1) (ci := 9) (v := .ref (a0 10)) (C := RX9) (T := TX9) (N := 15) hx hb hts inlX9 hown hK hPD.1 0 rfl rfl 10 (by decide) (hts _ gw_393) (fun _ h9 => h9) rfl dX9_beat_89 ?_
            refine va_astB hx hb hK hPD.1 hPD.2 hS 4 2 21 0 rfl rfl rfl rfl hi_2 eb_3 dX9_beat_92 (fun H locs hP hD hS => ?_)
            have hPD : WD G DA (wX9 G h0 a0 wk f0 A0 ++ (wX7 G (a0 0) a1 q_1.2.2 A1 ++ ([((a0 5), .inl (G.2.2.2, 8, .inr (.inr (.inr (.inr (fun k => some (va_up g2 7 (a0 10) k))))))), (g2 0, .inr (0, [.ref (aB2 0 0), .int (fB2 0 1)])), (aB2 0 0, .inl (G.2.2.1, 48, .inl (AB2 0 0))), (g2 1, .inr (0, [.ref (aB2 1 0), .int (fB2 1 1)])), (aB2 1 0, .inl (G.2.2.1, 48, .inl (AB2 1 0))), (g2 2, .inr (0, [.ref (aB2 2 0), .int (fB2 2 1)])), (aB2 2 0, .inl (G.2.2.1, 48, .inl (AB2 2 0))), (g2 3, .inr (0, [.ref (aB2 3 0), .int (fB2 3 1)])), (aB2 3 0, .inl (G.2.2.1, 48, .inl (AB2 3 0))), (g2 4, .inr (0, [.ref (aB2 4 0), .int (fB2 4 1)])), (aB2 4 0, .inl (G.2.2.1, 48, .inl (AB2 4 0))), (g2 5, .inr (0, [.ref (aB2 5 0), .int (fB2 5 1)])), (aB2 5 0, .inl (G.2.2.1, 48, .inl (AB2 5 0))), (g2 6, .inr (0, [.ref (aB2 6 0), .int (fB2 6 1)])), (aB2 6 0, .inl (G.2.2.1, 48, .inl (AB2 6 0))), (g2 7, .inr (0, [.ref (aB2 7 0), .int (fB2 7 1)])), (aB2 7 0, .inl (G.2.2.1, 48, .inl (AB2 7 0)))] ++ (wX0 G (a0 10) a3 q_1.2.1 q_1.1)))) H := ⟨hP, hD⟩
            clear hP hD
            refine lv_aload_n hx hb dX9_beat_93 rfl (lv_at hl 2 rfl) ?_
            refine lv_aload hx hb dX9_beat_94 (lv_at hl 0 rfl) ?_
            refine va_put (D := G.1) (ci := 9) (v := .ref (g2 7)) (ty := .object "IdleCrimes$Beat") (C := RX9) (T := TX9) (N := 15) hx hb hts inlX9 tyX9 tyX9_ok nmX9 hown hK hPD.1 hPD.2 hS 0 rfl rfl 10 (by decide) (hts _ gw_393) (fun _ h9 => h9) rfl (by decide +kernel) rfl rfl (Nat.le_of_ble_eq_true rfl) dX9_beat_96 (fun H locs hP hD hS => ?_)
            have hPD : WD G DA (wX9 G h0 (va_up a0 10 (g2 7)) wk f0 A0 ++ (wX7 G (a0 0) a1 q_1.2.2 A1 ++ ([((a0 5), .inl (G.2.2.2, 8, .inr (.inr (.inr (.inr (fun k => some (va_up g2 7 (a0 10) k))))))), (g2 0, .inr (0, [.ref (aB2 0 0), .int (fB2 0 1)])), (aB2 0 0, .inl (G.2.2.1, 48, .inl (AB2 0 0))), (g2 1, .inr (0, [.ref (aB2 1 0), .int (fB2 1 1)])), (aB2 1 0, .inl (G.2.2.1, 48, .inl (AB2 1 0))), (g2 2, .inr (0, [.ref (aB2 2 0), .int (fB2 2 1)])), (aB2 2 0, .inl (G.2.2.1, 48, .inl (AB2 2 0))), (g2 3, .inr (0, [.ref (aB2 3 0), .int (fB2 3 1)])), (aB2 3 0, .inl (G.2.2.1, 48, .inl (AB2 3 0))), (g2 4, .inr (0, [.ref (aB2 4 0), .int (fB2 4 1)])), (aB2 4 0, .inl (G.2.2.1, 48, .inl (AB2 4 0))), (g2 5, .inr (0, [.ref (aB2 5 0), .int (fB2 5 1)])), (aB2 5 0, .inl (G.2.2.1, 48, .inl (AB2 5 0))), (g2 6, .inr (0, [.ref (aB2 6 0), .int (fB2 6 1)])), (aB2 6 0, .inl (G.2.2.1, 48, .inl (AB2 6 0))), (g2 7, .inr (0, [.ref (aB2 7 0), .int (fB2 7 1)])), (aB2 7 0, .inl (G.2.2.1, 48, .inl (AB2 7 0)))] ++ (wX0 G (a0 10) a3 q_1.2.1 q_1.1)))) H := ⟨hP, hD⟩
            clear hP hD
            refine lv_aload_n hx hb dX9_beat_99 rfl (lv_at hl 2 rfl) ?_
            refine va_get (D := G.1) (ci := 9) (v := .ref (a0 0)) (C := RX9) (T := TX9) (N := 15) hx hb hts inlX9 hown hK hPD.1 0 rfl rfl 0 (by decide) (hts _ gw_366) (fun _ h9 => h9) rfl dX9_beat_100 ?_
            refine lv_iload_n hx hb dX9_beat_103 rfl (lv_at hl 1 rfl) ?_
            refine kVI (As := [.int (q_1.2.1 1)]) (rest := []) C0 (kt_X7_answer l G (a0 0) a1 q_1.2.2 A1 (q_1.2.1 1)) gi_V_X9_149_X7_answer (n := 1) rfl (by decide +kernel) rfl ⟨rfl, rfl, Nat.le_of_ble_eq_true rfl, Nat.le_of_ble_eq_true rfl⟩ hPD hS 2 7 rfl rfl rfl [2, 3] [0, 1, 4, 5, 6, 7, 8, 9, 10, 11, 12, 13, 14, 15, 16, 17, 18, 19, 20, 21, 22] [0, 1, 21, 22, 2, 3, 4, 5, 6, 7, 8, 9, 10, 11, 12, 13, 14, 15, 16, 17, 18, 19, 20] (wN := (wX9 G h0 (va_up a0 10 (g2 7)) wk f0 A0 ++ (wX7 G (a0 0) a1 q_1.2.2 A1 ++ ([((a0 5), .inl (G.2.2.2, 8, .inr (.inr (.inr (.inr (fun k => some (va_up g2 7 (a0 10) k))))))), (g2 0, .inr (0, [.ref (aB2 0 0), .int (fB2 0 1)])), (aB2 0 0, .inl (G.2.2.1, 48, .inl (AB2 0 0))), (g2 1, .inr (0, [.ref (aB2 1 0), .int (fB2 1 1)])), (aB2 1 0, .inl (G.2.2.1, 48, .inl (AB2 1 0))), (g2 2, .inr (0, [.ref (aB2 2 0), .int (fB2 2 1)])), (aB2 2 0, .inl (G.2.2.1, 48, .inl (AB2 2 0))), (g2 3, .inr (0, [.ref (aB2 3 0), .int (fB2 3 1)])), (aB2 3 0, .inl (G.2.2.1, 48, .inl (AB2 3 0))), (g2 4, .inr (0, [.ref (aB2 4 0), .int (fB2 4 1)])), (aB2 4 0, .inl (G.2.2.1, 48, .inl (AB2 4 0))), (g2 5, .inr (0, [.ref (aB2 5 0), .int (fB2 5 1)])), (aB2 5 0, .inl (G.2.2.1, 48, .inl (AB2 5 0))), (g2 6, .inr (0, [.ref (aB2 6 0), .int (fB2 6 1)])), (aB2 6 0, .inl (G.2.2.1, 48, .inl (AB2 6 0))), (g2 7, .inr (0, [.ref (aB2 7 0), .int (fB2 7 1)])), (aB2 7 0, .inl (G.2.2.1, 48, .inl (AB2 7 0)))] ++ (wX0 G (a0 10) a3 q_1.2.1 q_1.1))))) rfl rfl rfl rfl rfl hl.1 (Nat.le_of_ble_eq_true rfl) dX9_beat_104 (fun H locs hPD hS => ?_)
            obtain rfl := Option.some.inj h
            exact eIE ((va_up a0 10 (g2 7)), a1, (va_up g2 7 (a0 10)), (va_up aB2 7 a3), (aB2 7)) C0 hPD [0, 1, 2, 3, 4, 5, 6, 7, 8, 9, 10, 11, 12, 13, 14, 15, 16, 17, 18, 21, 22, 19, 20] rfl rfl hS rfl dX9_beat_107
      · have h := (if_pos cc1).symm.trans h
        refine lv_iconst (v := (-1)) hx hb dX9_beat_36 (by decide) ?_
        obtain rfl := Option.some.inj h
        exact eIE ((a0), a1, g2, aB2, a3) C0 hPD [0, 1, 2, 3, 4, 5, 6, 7, 8, 9, 10, 11, 12, 13, 14, 15, 16, 17, 18, 19, 20, 21, 22] rfl rfl hS rfl dX9_beat_37
abbrev rmX9_pleas : Room := { frames := 6, cells := 0, slots := 0, locals := 136 }
set_option maxRecDepth 100000 in
set_option maxHeartbeats 4000000 in
theorem ww_f9_pleas_b71  (C0 : Cx cX9_pleas 2 (some .int) RX9 p s m args meth c G DA) {h0 : Nat} {a0 : Nat → Nat} {wk : Option Nat} {a1 : Nat → Nat} {a2 : Nat → Nat} {a3 : Nat → Nat} {a4 : Nat → Nat} {f0 : Nat → Int32} {A0 : Nat → Nat → Int32} {A1 : Nat → Nat → Int32} {f2 : Nat → Int32} {f3 : Nat → Int32} {p1 : Int32}   {res : Int32 × (Nat → Int32) × (Nat → Nat → Int32) × (Nat → Nat → Int32) × (Nat → Nat → Int32) × (Nat → Int32)}  : ∀ (f1 : Nat → Int32) (A2 : Nat → Nat → Int32) (A3 : Nat → Nat → Int32) (A4 : Nat → Nat → Int32) (f4 : Nat → Int32), f9_pleas_b71 f0 A0 A1 f2 f3 p1  f1 A2 A3 A4 f4 = some res → ∀ (H : Heap) (locs : List Loc) (ls : Array Slot), WD G DA (wX9 G h0 a0 wk f0 A0 ++ (wX7 G (a0 0) a1 f1 A1 ++ (wX1 G (a0 1) a2 f2 A2 ++ (wX6 G (a0 2) a3 f3 A3 ++ (wX3 G (a0 7) a4 f4 A4))))) H → va_S DA s.heap H locs → lv_has ls 2 [(0, .ref h0), (1, .int p1)] → W p l e rmX9_pleas s m args below meth c H locs 0 0 (MQ below (QI G DA res.1 (wX9 G h0 a0 wk f0 A0 ++ (wX7 G (a0 0) a1 res.2.1 A1 ++ (wX1 G (a0 1) a2 f2 res.2.2.1 ++ (wX6 G (a0 2) a3 f3 res.2.2.2.1 ++ (wX3 G (a0 7) a4 res.2.2.2.2.2 res.2.2.2.2.1)))))) args s 0 0 DA) (F0 m 71 ls []) := by
  obtain ⟨hx, hb, hml, hown, hts⟩ := C0.1
  have hK := C0.2.2.2.1
  intro f1 A2 A3 A4 f4 h _ _ _ hPD hS hl
  unfold f9_pleas_b71 at h
  refine lv_aload_n hx hb dX9_pleas_71 rfl (lv_at hl 0 rfl) ?_
  refine va_get (D := G.1) (ci := 9) (v := .ref (a0 0)) (C := RX9) (T := TX9) (N := 15) hx hb hts inlX9 hown hK hPD.1 0 rfl rfl 0 (by decide) (hts _ gw_366) (fun _ h9 => h9) rfl dX9_pleas_72 ?_
  refine lv_aload_n hx hb dX9_pleas_75 rfl (lv_at hl 0 rfl) ?_
  refine va_get (D := G.1) (ci := 9) (v := .ref (a0 7)) (C := RX9) (T := TX9) (N := 15) hx hb hts inlX9 hown hK hPD.1 0 rfl rfl 7 (by decide) (hts _ gw_399) (fun _ h9 => h9) rfl dX9_pleas_76 ?_
  refine va_get (D := G.1) (ci := 3) (v := .int (f4 3)) (C := RX3) (T := TX3) (N := 4) hx hb hts inlX3 hown hK hPD.1 14 rfl rfl 3 (by decide) (hts _ gw_404) (fun _ h9 => h9) rfl dX9_pleas_79 ?_
  refine kVI (As := [.int (f4 3)]) (rest := []) C0 (kt_X7_answer l G (a0 0) a1 f1 A1 (f4 3)) gi_V_X9_149_X7_answer (n := 1) rfl (by decide +kernel) rfl ⟨rfl, rfl, Nat.le_of_ble_eq_true rfl, Nat.le_of_ble_eq_true rfl⟩ hPD hS 2 7 rfl rfl rfl [2, 3] [0, 1, 4, 5, 6, 7, 8, 9, 10, 11, 12, 13, 14, 15, 16, 17] [0, 1, 16, 17, 2, 3, 4, 5, 6, 7, 8, 9, 10, 11, 12, 13, 14, 15] (wN := (wX9 G h0 a0 wk f0 A0 ++ (wX7 G (a0 0) a1 f1 A1 ++ (wX1 G (a0 1) a2 f2 A2 ++ (wX6 G (a0 2) a3 f3 A3 ++ (wX3 G (a0 7) a4 f4 A4)))))) rfl rfl rfl rfl rfl hl.1 (Nat.le_of_ble_eq_true rfl) dX9_pleas_82 (fun H locs hPD hS => ?_)
  obtain rfl := Option.some.inj h
  exact eI C0 hPD.1 hPD.2 hS rfl dX9_pleas_85
set_option maxRecDepth 100000 in
set_option maxHeartbeats 4000000 in
theorem kt_X9_pleas (l : Launch) (G : Gp) (h0 : Nat) (a0 : Nat → Nat) (wk : Option Nat) (a1 : Nat → Nat) (a2 : Nat → Nat) (a3 : Nat → Nat) (a4 : Nat → Nat) (f0 : Nat → Int32) (A0 : Nat → Nat → Int32) (f1 : Nat → Int32) (A1 : Nat → Nat → Int32) (f2 : Nat → Int32) (A2 : Nat → Nat → Int32) (f3 : Nat → Int32) (A3 : Nat → Nat → Int32) (f4 : Nat → Int32) (A4 : Nat → Nat → Int32) (p1 : Int32) : ∀ {r : Int32 × (Nat → Int32) × (Nat → Nat → Int32) × (Nat → Nat → Int32) × (Nat → Nat → Int32) × (Nat → Int32)}, f9_pleas f0 A0 f1 A1 f2 A2 f3 A3 f4 A4 p1 = some r → CtrI l yX9_pleas cX9_pleas 2 (some .int) rmX9_pleas G [.ref h0, .int p1] (wX9 G h0 a0 wk f0 A0 ++ (wX7 G (a0 0) a1 f1 A1 ++ (wX1 G (a0 1) a2 f2 A2 ++ (wX6 G (a0 2) a3 f3 A3 ++ (wX3 G (a0 7) a4 f4 A4))))) r.1 (wX9 G h0 a0 wk f0 A0 ++ (wX7 G (a0 0) a1 r.2.1 A1 ++ (wX1 G (a0 1) a2 f2 r.2.2.1 ++ (wX6 G (a0 2) a3 f3 r.2.2.2.1 ++ (wX3 G (a0 7) a4 r.2.2.2.2.2 r.2.2.2.2.1))))) := by
  intro res h
  refine ctrI_of (cc := cX9_pleas) (maxL := 2) (ret := (some .int)) (by decide +kernel) rfl (Nat.le_of_ble_eq_true rfl) (fun p e s m below meth c DA C0 hP hD ls hl => ?_)
  have hPD : WD G DA (wX9 G h0 a0 wk f0 A0 ++ (wX7 G (a0 0) a1 f1 A1 ++ (wX1 G (a0 1) a2 f2 A2 ++ (wX6 G (a0 2) a3 f3 A3 ++ (wX3 G (a0 7) a4 f4 A4))))) s.heap := ⟨hP, hD⟩
  have hS : va_S DA s.heap s.heap [] := va_S.rf
  have hl : lv_has ls 2 [(0, .ref h0), (1, .int p1)] := hl
  obtain ⟨hx, hb, hml, hown, hts⟩ := C0.1
  have hK := C0.2.2.2.1
  unfold f9_pleas at h
  refine lv_iload_n hx hb dX9_pleas_0 rfl (lv_at hl 1 rfl) ?_
  refine lv_iconst (v := 1) hx hb dX9_pleas_1 (by decide) ?_
  refine lv_bipush (v := 120) hx hb dX9_pleas_2 (by decide) ?_
  refine kSI (As := [.int p1, .int 1, .int 120]) (rest := []) C0 (kt_X9_within l G  p1 1 120) gi_S_X9_90_X9_within (n := 3) rfl (by decide +kernel) ⟨rfl, rfl, Nat.le_of_ble_eq_true rfl, Nat.le_of_ble_eq_true rfl⟩ hPD hS [] [0, 1, 2, 3, 4, 5, 6, 7, 8, 9, 10, 11, 12, 13, 14, 15, 16, 17] [0, 1, 2, 3, 4, 5, 6, 7, 8, 9, 10, 11, 12, 13, 14, 15, 16, 17] (wN := (wX9 G h0 a0 wk f0 A0 ++ (wX7 G (a0 0) a1 f1 A1 ++ (wX1 G (a0 1) a2 f2 A2 ++ (wX6 G (a0 2) a3 f3 A3 ++ (wX3 G (a0 7) a4 f4 A4)))))) rfl rfl rfl rfl rfl hl.1 (Nat.le_of_ble_eq_true rfl) dX9_pleas_4 (fun H locs hPD hS => ?_)
  refine lv_if_eq (tgt := 21) hx hb dX9_pleas_7 (by decide) (fun cc1 => ?_) (fun cc1 => ?_)
  · have h := (if_pos cc1).symm.trans h
    refine lv_iconst (v := (-1)) hx hb dX9_pleas_21 (by decide) ?_
    obtain rfl := Option.some.inj h
    exact eI C0 hPD.1 hPD.2 hS rfl dX9_pleas_22
  · have h := (if_neg cc1).symm.trans h
    refine lv_aload_n hx hb dX9_pleas_10 rfl (lv_at hl 0 rfl) ?_
    refine va_get (D := G.1) (ci := 9) (v := .ref (a0 0)) (C := RX9) (T := TX9) (N := 15) hx hb hts inlX9 hown hK hPD.1 0 rfl rfl 0 (by decide) (hts _ gw_366) (fun _ h9 => h9) rfl dX9_pleas_11 ?_
    refine lv_iload_n hx hb dX9_pleas_14 rfl (lv_at hl 1 rfl) ?_
    refine kVI (As := [.int p1]) (rest := []) C0 (kt_X7_holds l G (a0 0) a1 f1 A1 p1) gi_V_X9_132_X7_holds (n := 1) rfl (by decide +kernel) rfl ⟨rfl, rfl, Nat.le_of_ble_eq_true rfl, Nat.le_of_ble_eq_true rfl⟩ hPD hS 2 7 rfl rfl rfl [2, 3] [0, 1, 4, 5, 6, 7, 8, 9, 10, 11, 12, 13, 14, 15, 16, 17] [0, 1, 16, 17, 2, 3, 4, 5, 6, 7, 8, 9, 10, 11, 12, 13, 14, 15] (wN := (wX9 G h0 a0 wk f0 A0 ++ (wX7 G (a0 0) a1 f1 A1 ++ (wX1 G (a0 1) a2 f2 A2 ++ (wX6 G (a0 2) a3 f3 A3 ++ (wX3 G (a0 7) a4 f4 A4)))))) rfl rfl rfl rfl rfl hl.1 (Nat.le_of_ble_eq_true rfl) dX9_pleas_15 (fun H locs hPD hS => ?_)
    refine lv_if_ne (tgt := 23) hx hb dX9_pleas_18 (by decide) (fun cc1 => ?_) (fun cc1 => ?_)
    · have h := (if_neg cc1).symm.trans h
      refine lv_aload_n hx hb dX9_pleas_23 rfl (lv_at hl 0 rfl) ?_
      refine va_get (D := G.1) (ci := 9) (v := .ref (a0 0)) (C := RX9) (T := TX9) (N := 15) hx hb hts inlX9 hown hK hPD.1 0 rfl rfl 0 (by decide) (hts _ gw_366) (fun _ h9 => h9) rfl dX9_pleas_24 ?_
      refine lv_iload_n hx hb dX9_pleas_27 rfl (lv_at hl 1 rfl) ?_
      refine kVV (As := [.int p1]) (rest := []) C0 (kt_X7_open l G (a0 0) a1 f1 A1 p1) gi_V_X9_135_X7_open (n := 1) rfl (by decide +kernel) rfl ⟨rfl, rfl, Nat.le_of_ble_eq_true rfl, Nat.le_of_ble_eq_true rfl⟩ hPD hS 2 7 rfl rfl rfl [2, 3] [0, 1, 4, 5, 6, 7, 8, 9, 10, 11, 12, 13, 14, 15, 16, 17] [0, 1, 16, 17, 2, 3, 4, 5, 6, 7, 8, 9, 10, 11, 12, 13, 14, 15] (wN := (wX9 G h0 a0 wk f0 A0 ++ (wX7 G (a0 0) a1 (f7_open f1 A1 p1) A1 ++ (wX1 G (a0 1) a2 f2 A2 ++ (wX6 G (a0 2) a3 f3 A3 ++ (wX3 G (a0 7) a4 f4 A4)))))) rfl rfl rfl rfl rfl hl.1 (Nat.le_of_ble_eq_true rfl) dX9_pleas_28 (fun H locs hPD hS => ?_)
      refine lv_aload_n hx hb dX9_pleas_31 rfl (lv_at hl 0 rfl) ?_
      refine va_get (D := G.1) (ci := 9) (v := .ref (a0 7)) (C := RX9) (T := TX9) (N := 15) hx hb hts inlX9 hown hK hPD.1 0 rfl rfl 7 (by decide) (hts _ gw_399) (fun _ h9 => h9) rfl dX9_pleas_32 ?_
      refine lv_aload_n hx hb dX9_pleas_35 rfl (lv_at hl 0 rfl) ?_
      refine va_get (D := G.1) (ci := 9) (v := .ref (a0 0)) (C := RX9) (T := TX9) (N := 15) hx hb hts inlX9 hown hK hPD.1 0 rfl rfl 0 (by decide) (hts _ gw_366) (fun _ h9 => h9) rfl dX9_pleas_36 ?_
      refine lv_aload_n hx hb dX9_pleas_39 rfl (lv_at hl 0 rfl) ?_
      refine va_get (D := G.1) (ci := 9) (v := .ref (a0 1)) (C := RX9) (T := TX9) (N := 15) hx hb hts inlX9 hown hK hPD.1 0 rfl rfl 1 (by decide) (hts _ gw_354) (fun _ h9 => h9) rfl dX9_pleas_40 ?_
      obtain ⟨q_1, hq_1, h⟩ := ob2 h
      refine kVV (As := [.ref (a0 0), .ref (a0 1)]) (rest := []) C0 (kt_X3_read l G (a0 7) a4 (a0 0) a1 (a0 1) a2 f4 A4 (f7_open f1 A1 p1) A1 f2 A2 hq_1) gi_V_X9_155_X3_read (n := 2) rfl (by decide +kernel) rfl ⟨rfl, rfl, Nat.le_of_ble_eq_true rfl, Nat.le_of_ble_eq_true rfl⟩ hPD hS 14 3 rfl rfl rfl [14, 15, 16, 17, 2, 3, 4, 5, 6, 7] [0, 1, 8, 9, 10, 11, 12, 13] [0, 1, 12, 13, 14, 15, 16, 17, 2, 3, 4, 5, 6, 7, 8, 9, 10, 11] (wN := (wX9 G h0 a0 wk f0 A0 ++ (wX7 G (a0 0) a1 q_1.2.2 A1 ++ (wX1 G (a0 1) a2 f2 A2 ++ (wX6 G (a0 2) a3 f3 A3 ++ (wX3 G (a0 7) a4 q_1.2.1 q_1.1)))))) rfl rfl rfl rfl rfl hl.1 (Nat.le_of_ble_eq_true rfl) dX9_pleas_43 (fun H locs hPD hS => ?_)
      refine lv_aload_n hx hb dX9_pleas_46 rfl (lv_at hl 0 rfl) ?_
      refine va_get (D := G.1) (ci := 9) (v := .ref (a0 0)) (C := RX9) (T := TX9) (N := 15) hx hb hts inlX9 hown hK hPD.1 0 rfl rfl 0 (by decide) (hts _ gw_366) (fun _ h9 => h9) rfl dX9_pleas_47 ?_
      refine kVI (As := []) (rest := []) C0 (kt_X7_isFine l G (a0 0) a1 q_1.2.2 A1) gi_V_X9_142_X7_isFine (n := 0) rfl (by decide +kernel) rfl ⟨rfl, rfl, Nat.le_of_ble_eq_true rfl, Nat.le_of_ble_eq_true rfl⟩ hPD hS 2 7 rfl rfl rfl [2, 3] [0, 1, 4, 5, 6, 7, 8, 9, 10, 11, 12, 13, 14, 15, 16, 17] [0, 1, 16, 17, 2, 3, 4, 5, 6, 7, 8, 9, 10, 11, 12, 13, 14, 15] (wN := (wX9 G h0 a0 wk f0 A0 ++ (wX7 G (a0 0) a1 q_1.2.2 A1 ++ (wX1 G (a0 1) a2 f2 A2 ++ (wX6 G (a0 2) a3 f3 A3 ++ (wX3 G (a0 7) a4 q_1.2.1 q_1.1)))))) rfl rfl rfl rfl rfl hl.1 (Nat.le_of_ble_eq_true rfl) dX9_pleas_50 (fun H locs hPD hS => ?_)
      refine lv_if_eq (tgt := 71) hx hb dX9_pleas_53 (by decide) (fun cc1 => ?_) (fun cc1 => ?_)
      · have h := (if_pos cc1).symm.trans h
        exact ww_f9_pleas_b71 C0 q_1.2.2 A2 A3 q_1.1 q_1.2.1 h _ _ _ hPD hS (lv_sub hl [0, 1] rfl)
      · have h := (if_neg cc1).symm.trans h
        refine lv_aload_n hx hb dX9_pleas_56 rfl (lv_at hl 0 rfl) ?_
        refine va_get (D := G.1) (ci := 9) (v := .ref (a0 7)) (C := RX9) (T := TX9) (N := 15) hx hb hts inlX9 hown hK hPD.1 0 rfl rfl 7 (by decide) (hts _ gw_399) (fun _ h9 => h9) rfl dX9_pleas_57 ?_
        refine lv_aload_n hx hb dX9_pleas_60 rfl (lv_at hl 0 rfl) ?_
        refine va_get (D := G.1) (ci := 9) (v := .ref (a0 2)) (C := RX9) (T := TX9) (N := 15) hx hb hts inlX9 hown hK hPD.1 0 rfl rfl 2 (by decide) (hts _ gw_356) (fun _ h9 => h9) rfl dX9_pleas_61 ?_
        refine lv_aload_n hx hb dX9_pleas_64 rfl (lv_at hl 0 rfl) ?_
        refine va_get (D := G.1) (ci := 9) (v := .ref (a0 1)) (C := RX9) (T := TX9) (N := 15) hx hb hts inlX9 hown hK hPD.1 0 rfl rfl 1 (by decide) (hts _ gw_354) (fun _ h9 => h9) rfl dX9_pleas_65 ?_
        obtain ⟨q_2, hq_2, h⟩ := ob2 h
        refine kVV (As := [.ref (a0 2), .ref (a0 1)]) (rest := []) C0 (kt_X3_grant l G (a0 7) a4 (a0 2) a3 (a0 1) a2 q_1.2.1 q_1.1 f3 A3 f2 A2 hq_2) gi_V_X9_158_X3_grant (n := 2) rfl (by decide +kernel) rfl ⟨rfl, rfl, Nat.le_of_ble_eq_true rfl, Nat.le_of_ble_eq_true rfl⟩ hPD hS 14 3 rfl rfl rfl [14, 15, 16, 17, 8, 9, 10, 11, 12, 13, 4, 5, 6, 7] [0, 1, 2, 3] [0, 1, 2, 3, 14, 15, 16, 17, 8, 9, 10, 11, 12, 13, 4, 5, 6, 7] (wN := (wX9 G h0 a0 wk f0 A0 ++ (wX7 G (a0 0) a1 q_1.2.2 A1 ++ (wX1 G (a0 1) a2 f2 q_2.2 ++ (wX6 G (a0 2) a3 f3 q_2.1 ++ (wX3 G (a0 7) a4 q_1.2.1 q_1.1)))))) rfl rfl rfl rfl rfl hl.1 (Nat.le_of_ble_eq_true rfl) dX9_pleas_68 (fun H locs hPD hS => ?_)
        exact ww_f9_pleas_b71 C0 q_1.2.2 q_2.2 q_2.1 q_1.1 q_1.2.1 h _ _ _ hPD hS (lv_sub hl [0, 1] rfl)
    · have h := (if_pos cc1).symm.trans h
      refine lv_iconst (v := (-1)) hx hb dX9_pleas_21 (by decide) ?_
      obtain rfl := Option.some.inj h
      exact eI C0 hPD.1 hPD.2 hS rfl dX9_pleas_22
abbrev rmX9_isHours : Room := { frames := 1, cells := 0, slots := 0, locals := 22 }
set_option maxRecDepth 100000 in
set_option maxHeartbeats 4000000 in
theorem kt_X9_isHours (l : Launch) (G : Gp) (p0 : Int32) : ∀ {r : Int32}, f9_isHours p0 = some r → CtrI l yX9_isHours cX9_isHours 1 (some .boolean) rmX9_isHours G [.int p0] ([] : va_W) r ([] : va_W) := by
  intro res h
  refine ctrI_of (cc := cX9_isHours) (maxL := 1) (ret := (some .boolean)) (by decide +kernel) rfl (Nat.le_of_ble_eq_true rfl) (fun p e s m below meth c DA C0 hP hD ls hl => ?_)
  have hPD : WD G DA ([] : va_W) s.heap := ⟨hP, hD⟩
  have hS : va_S DA s.heap s.heap [] := va_S.rf
  have hl : lv_has ls 1 [(0, .int p0)] := hl
  obtain ⟨hx, hb, hml, hown, hts⟩ := C0.1
  have hK := C0.2.2.2.1
  unfold f9_isHours at h
  refine lv_iload_n hx hb dX9_isHours_0 rfl (lv_at hl 0 rfl) ?_
  refine lv_iconst (v := 1) hx hb dX9_isHours_1 (by decide) ?_
  refine lv_sipush (v := 240) hx hb dX9_isHours_2 (by decide) ?_
  refine kSI (As := [.int p0, .int 1, .int 240]) (rest := []) C0 (kt_X9_within l G  p0 1 240) gi_S_X9_90_X9_within (n := 3) rfl (by decide +kernel) ⟨rfl, rfl, Nat.le_of_ble_eq_true rfl, Nat.le_of_ble_eq_true rfl⟩ hPD hS [] [] [] (wN := ([] : va_W)) rfl rfl rfl rfl rfl hl.1 (Nat.le_of_ble_eq_true rfl) dX9_isHours_5 (fun H locs hPD hS => ?_)
  obtain ⟨hz, h⟩ := ob h
  obtain rfl := Option.some.inj h
  exact eZ C0 hPD.1 hPD.2 hS rfl (nbool (Classical.not_not.mp hz)) dX9_isHours_8
abbrev rmX9_passes : Room := { frames := 6, cells := 0, slots := 0, locals := 138 }
set_option maxRecDepth 100000 in
set_option maxHeartbeats 4000000 in
theorem kt_X9_passes (l : Launch) (G : Gp) (h0 : Nat) (a0 : Nat → Nat) (wk : Option Nat) (a1 : Nat → Nat) (g2 : Nat → Nat) (aB2 : Nat → Nat → Nat) (a3 : Nat → Nat) (a4 : Nat → Nat) (h5 : Nat) (a5 : Nat → Nat) (f0 : Nat → Int32) (A0 : Nat → Nat → Int32) (f1 : Nat → Int32) (A1 : Nat → Nat → Int32) (fB2 : Nat → Nat → Int32) (AB2 : Nat → Nat → Nat → Int32) (f3 : Nat → Int32) (A3 : Nat → Nat → Int32) (f4 : Nat → Int32) (A4 : Nat → Nat → Int32) (f5 : Nat → Int32) (A5 : Nat → Nat → Int32) : ∀ {r : Int32 × (Nat → Nat → Int32) × (Nat → Int32) × (Nat → Nat → Int32) × (Nat → Int32) × (Nat → Nat → Int32) × (Nat → Int32)}, f9_passes f0 A0 f1 A1 fB2 AB2 f3 A3 f4 A4 f5 A5 = some r → CtrI l yX9_passes cX9_passes 2 (some .boolean) rmX9_passes G [.ref h0, .ref h5] (wX9 G h0 a0 wk f0 A0 ++ (wX1 G (a0 1) a1 f1 A1 ++ (wB G (a0 5) g2 aB2 fB2 AB2 ++ (wX5 G (a0 6) a3 f3 A3 ++ (wX2 G (a0 11) a4 f4 A4 ++ (wX6 G h5 a5 f5 A5)))))) r.1 (wX9 G h0 a0 wk f0 A0 ++ (wX1 G (a0 1) a1 f1 A1 ++ (wB G (a0 5) g2 aB2 fB2 AB2 ++ (wX5 G (a0 6) a3 r.2.2.1 r.2.1 ++ (wX2 G (a0 11) a4 r.2.2.2.2.1 r.2.2.2.1 ++ (wX6 G h5 a5 r.2.2.2.2.2.2 r.2.2.2.2.2.1)))))) := by
  intro res h
  refine ctrI_of (cc := cX9_passes) (maxL := 2) (ret := (some .boolean)) (by decide +kernel) rfl (Nat.le_of_ble_eq_true rfl) (fun p e s m below meth c DA C0 hP hD ls hl => ?_)
  have hPD : WD G DA (wX9 G h0 a0 wk f0 A0 ++ (wX1 G (a0 1) a1 f1 A1 ++ (wB G (a0 5) g2 aB2 fB2 AB2 ++ (wX5 G (a0 6) a3 f3 A3 ++ (wX2 G (a0 11) a4 f4 A4 ++ (wX6 G h5 a5 f5 A5)))))) s.heap := ⟨hP, hD⟩
  have hS : va_S DA s.heap s.heap [] := va_S.rf
  have hl : lv_has ls 2 [(0, .ref h0), (1, .ref h5)] := hl
  obtain ⟨hx, hb, hml, hown, hts⟩ := C0.1
  have hK := C0.2.2.2.1
  unfold f9_passes at h
  refine lv_aload_n hx hb dX9_passes_0 rfl (lv_at hl 0 rfl) ?_
  refine va_get (D := G.1) (ci := 9) (v := .ref (a0 6)) (C := RX9) (T := TX9) (N := 15) hx hb hts inlX9 hown hK hPD.1 0 rfl rfl 6 (by decide) (hts _ gw_409) (fun _ h9 => h9) rfl dX9_passes_1 ?_
  refine lv_aload_n hx hb dX9_passes_4 rfl (lv_at hl 1 rfl) ?_
  refine lv_aload_n hx hb dX9_passes_5 rfl (lv_at hl 0 rfl) ?_
  refine va_get (D := G.1) (ci := 9) (v := .ref (a0 11)) (C := RX9) (T := TX9) (N := 15) hx hb hts inlX9 hown hK hPD.1 0 rfl rfl 11 (by decide) (hts _ gw_386) (fun _ h9 => h9) rfl dX9_passes_6 ?_
  refine lv_aload_n hx hb dX9_passes_9 rfl (lv_at hl 0 rfl) ?_
  refine va_get (D := G.1) (ci := 9) (v := .ref (a0 1)) (C := RX9) (T := TX9) (N := 15) hx hb hts inlX9 hown hK hPD.1 0 rfl rfl 1 (by decide) (hts _ gw_354) (fun _ h9 => h9) rfl dX9_passes_10 ?_
  refine lv_aload_n hx hb dX9_passes_13 rfl (lv_at hl 0 rfl) ?_
  refine va_get (D := G.1) (ci := 9) (v := .ref (a0 5)) (C := RX9) (T := TX9) (N := 15) hx hb hts inlX9 hown hK hPD.1 0 rfl rfl 5 (by decide) (hts _ gw_392) (fun _ h9 => h9) rfl dX9_passes_14 ?_
  obtain ⟨q_1, hq_1, h⟩ := ob2 h
  refine kVI (As := [.ref h5, .ref (a0 11), .ref (a0 1), .ref (a0 5)]) (rest := []) C0 (kt_X5_passes l G (a0 6) a3 h5 a5 (a0 11) a4 (a0 1) a1 (a0 5) g2 aB2 f3 A3 f5 A5 f4 A4 f1 A1 fB2 AB2 hq_1) gi_V_X9_209_X5_passes (n := 4) rfl (by decide +kernel) rfl ⟨rfl, rfl, Nat.le_of_ble_eq_true rfl, Nat.le_of_ble_eq_true rfl⟩ hPD hS 23 5 rfl rfl rfl [23, 24, 25, 34, 35, 36, 37, 38, 39, 26, 27, 28, 29, 30, 31, 32, 33, 2, 3, 4, 5, 6, 7, 8, 9, 10, 11, 12, 13, 14, 15, 16, 17, 18, 19, 20, 21, 22] [0, 1] [0, 1, 19, 20, 21, 22, 23, 24, 25, 26, 27, 28, 29, 30, 31, 32, 33, 34, 35, 36, 37, 38, 39, 2, 3, 4, 11, 12, 13, 14, 15, 16, 17, 18, 5, 6, 7, 8, 9, 10] (wN := (wX9 G h0 a0 wk f0 A0 ++ (wX1 G (a0 1) a1 f1 A1 ++ (wB G (a0 5) g2 aB2 fB2 AB2 ++ (wX5 G (a0 6) a3 q_1.2.2.1 q_1.2.1 ++ (wX2 G (a0 11) a4 q_1.2.2.2.2.2.2 q_1.2.2.2.2.2.1 ++ (wX6 G h5 a5 q_1.2.2.2.2.1 q_1.2.2.2.1))))))) rfl rfl rfl rfl rfl hl.1 (Nat.le_of_ble_eq_true rfl) dX9_passes_17 (fun H locs hPD hS => ?_)
  obtain ⟨hz, h⟩ := ob h
  obtain rfl := Option.some.inj h
  exact eZ C0 hPD.1 hPD.2 hS rfl (nbool (Classical.not_not.mp hz)) dX9_passes_20
abbrev rmX9_hours : Room := { frames := 7, cells := 0, slots := 0, locals := 159 }
set_option maxRecDepth 100000 in
set_option maxHeartbeats 4000000 in
theorem ww_f9_hours_b13  (C0 : Cx cX9_hours 4 (some .int) RX9 p s m args meth c G DA) {h0 : Nat} {a0 : Nat → Nat} {wk : Option Nat} {a1 : Nat → Nat} {a2 : Nat → Nat} {g3 : Nat → Nat} {aB3 : Nat → Nat → Nat} {a4 : Nat → Nat} {a5 : Nat → Nat} {f0 : Nat → Int32} {A0 : Nat → Nat → Int32} {f1 : Nat → Int32} {A1 : Nat → Nat → Int32} {fB3 : Nat → Nat → Int32} {AB3 : Nat → Nat → Nat → Int32} {p1 : Int32}  {k13 : (Nat → Nat → Int32) → (Nat → Int32) → (Nat → Nat → Int32) → (Nat → Int32) → (Nat → Nat → Int32) → (Nat → Int32) → Int32 → Int32 → Option (Int32 × (Nat → Nat → Int32) × (Nat → Int32) × (Nat → Nat → Int32) × (Nat → Int32) × (Nat → Nat → Int32) × (Nat → Int32))} {res : Int32 × (Nat → Nat → Int32) × (Nat → Int32) × (Nat → Nat → Int32) × (Nat → Int32) × (Nat → Nat → Int32) × (Nat → Int32)}  (hk13 : ∀ (A2 : Nat → Nat → Int32) (f2 : Nat → Int32) (A4 : Nat → Nat → Int32) (f4 : Nat → Int32) (A5 : Nat → Nat → Int32) (f5 : Nat → Int32) (l2 : Int32) (l3 : Int32), k13 A2 f2 A4 f4 A5 f5 l2 l3 = some res → ∀ (H : Heap) (locs : List Loc) (ls : Array Slot), WD G DA (wX9 G h0 a0 wk f0 A0 ++ (wX1 G (a0 1) a1 f1 A1 ++ (wX6 G (a0 2) a2 f2 A2 ++ (wB G (a0 5) g3 aB3 fB3 AB3 ++ (wX5 G (a0 6) a4 f4 A4 ++ (wX2 G (a0 11) a5 f5 A5)))))) H → va_S DA s.heap H locs → lv_has ls 4 [(0, .ref h0), (1, .int p1), (2, .int l2), (3, .int l3)] → W p l e rmX9_hours s m args below meth c H locs 0 0 (MQ below (QI G DA res.1 (wX9 G h0 a0 wk f0 A0 ++ (wX1 G (a0 1) a1 f1 A1 ++ (wX6 G (a0 2) a2 res.2.2.1 res.2.1 ++ (wB G (a0 5) g3 aB3 fB3 AB3 ++ (wX5 G (a0 6) a4 res.2.2.2.2.1 res.2.2.2.1 ++ (wX2 G (a0 11) a5 res.2.2.2.2.2.2 res.2.2.2.2.2.1))))))) args s 0 0 DA) (F0 m 13 ls [])) : ∀ (A2 : Nat → Nat → Int32) (f2 : Nat → Int32) (A4 : Nat → Nat → Int32) (f4 : Nat → Int32) (A5 : Nat → Nat → Int32) (f5 : Nat → Int32) (l2 : Int32) (l3 : Int32), f9_hours_b13 f0 A0 f1 A1 fB3 AB3 p1  k13 A2 f2 A4 f4 A5 f5 l2 l3 = some res → ∀ (H : Heap) (locs : List Loc) (ls : Array Slot), WD G DA (wX9 G h0 a0 wk f0 A0 ++ (wX1 G (a0 1) a1 f1 A1 ++ (wX6 G (a0 2) a2 f2 A2 ++ (wB G (a0 5) g3 aB3 fB3 AB3 ++ (wX5 G (a0 6) a4 f4 A4 ++ (wX2 G (a0 11) a5 f5 A5)))))) H → va_S DA s.heap H locs → lv_has ls 4 [(0, .ref h0), (1, .int p1), (2, .int l2), (3, .int l3)] → W p l e rmX9_hours s m args below meth c H locs 0 0 (MQ below (QI G DA res.1 (wX9 G h0 a0 wk f0 A0 ++ (wX1 G (a0 1) a1 f1 A1 ++ (wX6 G (a0 2) a2 res.2.2.1 res.2.1 ++ (wB G (a0 5) g3 aB3 fB3 AB3 ++ (wX5 G (a0 6) a4 res.2.2.2.2.1 res.2.2.2.1 ++ (wX2 G (a0 11) a5 res.2.2.2.2.2.2 res.2.2.2.2.2.1))))))) args s 0 0 DA) (F0 m 13 ls []) := by
  obtain ⟨hx, hb, hml, hown, hts⟩ := C0.1
  have hK := C0.2.2.2.1
  intro A2 f2 A4 f4 A5 f5 l2 l3 h _ _ _ hPD hS hl
  unfold f9_hours_b13 at h
  refine lv_iload_n hx hb dX9_hours_13 rfl (lv_at hl 3 rfl) ?_
  refine lv_iload_n hx hb dX9_hours_14 rfl (lv_at hl 1 rfl) ?_
  refine lv_icmp_ge (tgt := 45) hx hb dX9_hours_15 (by decide) (fun cc1 => ?_) (fun cc1 => ?_)
  · have h := (if_pos cc1).symm.trans h
    refine lv_iload_n hx hb dX9_hours_45 rfl (lv_at hl 2 rfl) ?_
    obtain rfl := Option.some.inj h
    exact eI C0 hPD.1 hPD.2 hS rfl dX9_hours_46
  · have h := (if_neg cc1).symm.trans h
    refine lv_aload_n hx hb dX9_hours_18 rfl (lv_at hl 0 rfl) ?_
    refine lv_aload_n hx hb dX9_hours_19 rfl (lv_at hl 0 rfl) ?_
    refine va_get (D := G.1) (ci := 9) (v := .ref (a0 2)) (C := RX9) (T := TX9) (N := 15) hx hb hts inlX9 hown hK hPD.1 0 rfl rfl 2 (by decide) (hts _ gw_356) (fun _ h9 => h9) rfl dX9_hours_20 ?_
    obtain ⟨q_2, hq_2, h⟩ := ob2 h
    refine kVI (As := [.ref (a0 2)]) (rest := []) C0 (kt_X9_passes l G h0 a0 wk a1 g3 aB3 a4 a5 (a0 2) a2 f0 A0 f1 A1 fB3 AB3 f4 A4 f5 A5 f2 A2 hq_2) gi_V_X9_168_X9_passes (n := 1) rfl (by decide +kernel) rfl ⟨rfl, rfl, Nat.le_of_ble_eq_true rfl, Nat.le_of_ble_eq_true rfl⟩ hPD hS 0 9 rfl rfl rfl [0, 1, 2, 3, 4, 5, 12, 13, 14, 15, 16, 17, 18, 19, 20, 21, 22, 23, 24, 25, 26, 27, 28, 29, 30, 31, 32, 33, 34, 35, 36, 37, 38, 39, 6, 7, 8, 9, 10, 11] [] [0, 1, 2, 3, 4, 5, 34, 35, 36, 37, 38, 39, 6, 7, 8, 9, 10, 11, 12, 13, 14, 15, 16, 17, 18, 19, 20, 21, 22, 23, 24, 25, 26, 27, 28, 29, 30, 31, 32, 33] (wN := (wX9 G h0 a0 wk f0 A0 ++ (wX1 G (a0 1) a1 f1 A1 ++ (wX6 G (a0 2) a2 q_2.2.2.2.2.2.2 q_2.2.2.2.2.2.1 ++ (wB G (a0 5) g3 aB3 fB3 AB3 ++ (wX5 G (a0 6) a4 q_2.2.2.1 q_2.2.1 ++ (wX2 G (a0 11) a5 q_2.2.2.2.2.1 q_2.2.2.2.1))))))) rfl rfl rfl rfl rfl hl.1 (Nat.le_of_ble_eq_true rfl) dX9_hours_23 (fun H locs hPD hS => ?_)
    refine lv_if_eq (tgt := 45) hx hb dX9_hours_26 (by decide) (fun cc1 => ?_) (fun cc1 => ?_)
    · have h := (if_pos cc1).symm.trans h
      refine lv_iload_n hx hb dX9_hours_45 rfl (lv_at hl 2 rfl) ?_
      obtain rfl := Option.some.inj h
      exact eI C0 hPD.1 hPD.2 hS rfl dX9_hours_46
    · have h := (if_neg cc1).symm.trans h
      refine lv_iload_n hx hb dX9_hours_29 rfl (lv_at hl 2 rfl) ?_
      refine lv_aload_n hx hb dX9_hours_30 rfl (lv_at hl 0 rfl) ?_
      refine va_get (D := G.1) (ci := 9) (v := .ref (a0 6)) (C := RX9) (T := TX9) (N := 15) hx hb hts inlX9 hown hK hPD.1 0 rfl rfl 6 (by decide) (hts _ gw_409) (fun _ h9 => h9) rfl dX9_hours_31 ?_
      refine va_get (D := G.1) (ci := 5) (v := .int (q_2.2.2.1 2)) (C := RX5) (T := TX5) (N := 4) hx hb hts inlX5 hown hK hPD.1 29 rfl rfl 2 (by decide) (hts _ gw_421) (fun _ h9 => h9) rfl dX9_hours_34 ?_
      refine lv_iadd hx hb dX9_hours_37 ?_
      refine lv_istore_n (lv' := [(2, .int (l2 + (q_2.2.2.1 2))), (0, .ref h0), (1, .int p1), (3, .int l3)]) hx hb dX9_hours_38 rfl hl (by decide) rfl (fun ls hl => ?_)
      refine lv_iinc (v := l3 + 1) (lv' := [(3, .int (l3 + 1)), (2, .int (l2 + (q_2.2.2.1 2))), (0, .ref h0), (1, .int p1)]) hx hb dX9_hours_39 hl (k := 3) rfl rfl (by decide) rfl (fun ls hl => ?_)
      refine lv_goto (tgt := 13) hx hb dX9_hours_42 (by decide) ?_
      exact hk13 q_2.2.2.2.2.2.1 q_2.2.2.2.2.2.2 q_2.2.1 q_2.2.2.1 q_2.2.2.2.1 q_2.2.2.2.2.1 (l2 + (q_2.2.2.1 2)) (l3 + 1) h _ _ _ hPD hS (lv_sub hl [2, 3, 1, 0] rfl)
set_option maxRecDepth 100000 in
set_option maxHeartbeats 4000000 in
theorem ww_f9_hours_l13  (C0 : Cx cX9_hours 4 (some .int) RX9 p s m args meth c G DA) {h0 : Nat} {a0 : Nat → Nat} {wk : Option Nat} {a1 : Nat → Nat} {a2 : Nat → Nat} {g3 : Nat → Nat} {aB3 : Nat → Nat → Nat} {a4 : Nat → Nat} {a5 : Nat → Nat} {f0 : Nat → Int32} {A0 : Nat → Nat → Int32} {f1 : Nat → Int32} {A1 : Nat → Nat → Int32} {fB3 : Nat → Nat → Int32} {AB3 : Nat → Nat → Nat → Int32} {p1 : Int32}   {res : Int32 × (Nat → Nat → Int32) × (Nat → Int32) × (Nat → Nat → Int32) × (Nat → Int32) × (Nat → Nat → Int32) × (Nat → Int32)}  : ∀ (n : Nat) (A2 : Nat → Nat → Int32) (f2 : Nat → Int32) (A4 : Nat → Nat → Int32) (f4 : Nat → Int32) (A5 : Nat → Nat → Int32) (f5 : Nat → Int32) (l2 : Int32) (l3 : Int32), f9_hours_l13 f0 A0 f1 A1 fB3 AB3 p1  n A2 f2 A4 f4 A5 f5 l2 l3 = some res → ∀ (H : Heap) (locs : List Loc) (ls : Array Slot), WD G DA (wX9 G h0 a0 wk f0 A0 ++ (wX1 G (a0 1) a1 f1 A1 ++ (wX6 G (a0 2) a2 f2 A2 ++ (wB G (a0 5) g3 aB3 fB3 AB3 ++ (wX5 G (a0 6) a4 f4 A4 ++ (wX2 G (a0 11) a5 f5 A5)))))) H → va_S DA s.heap H locs → lv_has ls 4 [(0, .ref h0), (1, .int p1), (2, .int l2), (3, .int l3)] → W p l e rmX9_hours s m args below meth c H locs 0 0 (MQ below (QI G DA res.1 (wX9 G h0 a0 wk f0 A0 ++ (wX1 G (a0 1) a1 f1 A1 ++ (wX6 G (a0 2) a2 res.2.2.1 res.2.1 ++ (wB G (a0 5) g3 aB3 fB3 AB3 ++ (wX5 G (a0 6) a4 res.2.2.2.2.1 res.2.2.2.1 ++ (wX2 G (a0 11) a5 res.2.2.2.2.2.2 res.2.2.2.2.2.1))))))) args s 0 0 DA) (F0 m 13 ls []) := by
  intro n
  induction n with
  | zero => intro A2 f2 A4 f4 A5 f5 l2 l3 h; cases h
  | succ n ih => intro A2 f2 A4 f4 A5 f5 l2 l3 h; exact ww_f9_hours_b13 C0  ih A2 f2 A4 f4 A5 f5 l2 l3 h
set_option maxRecDepth 100000 in
set_option maxHeartbeats 4000000 in
theorem kt_X9_hours (l : Launch) (G : Gp) (h0 : Nat) (a0 : Nat → Nat) (wk : Option Nat) (a1 : Nat → Nat) (a2 : Nat → Nat) (g3 : Nat → Nat) (aB3 : Nat → Nat → Nat) (a4 : Nat → Nat) (a5 : Nat → Nat) (f0 : Nat → Int32) (A0 : Nat → Nat → Int32) (f1 : Nat → Int32) (A1 : Nat → Nat → Int32) (f2 : Nat → Int32) (A2 : Nat → Nat → Int32) (fB3 : Nat → Nat → Int32) (AB3 : Nat → Nat → Nat → Int32) (f4 : Nat → Int32) (A4 : Nat → Nat → Int32) (f5 : Nat → Int32) (A5 : Nat → Nat → Int32) (p1 : Int32) : ∀ {r : Int32 × (Nat → Nat → Int32) × (Nat → Int32) × (Nat → Nat → Int32) × (Nat → Int32) × (Nat → Nat → Int32) × (Nat → Int32)}, f9_hours f0 A0 f1 A1 f2 A2 fB3 AB3 f4 A4 f5 A5 p1 = some r → CtrI l yX9_hours cX9_hours 4 (some .int) rmX9_hours G [.ref h0, .int p1] (wX9 G h0 a0 wk f0 A0 ++ (wX1 G (a0 1) a1 f1 A1 ++ (wX6 G (a0 2) a2 f2 A2 ++ (wB G (a0 5) g3 aB3 fB3 AB3 ++ (wX5 G (a0 6) a4 f4 A4 ++ (wX2 G (a0 11) a5 f5 A5)))))) r.1 (wX9 G h0 a0 wk f0 A0 ++ (wX1 G (a0 1) a1 f1 A1 ++ (wX6 G (a0 2) a2 r.2.2.1 r.2.1 ++ (wB G (a0 5) g3 aB3 fB3 AB3 ++ (wX5 G (a0 6) a4 r.2.2.2.2.1 r.2.2.2.1 ++ (wX2 G (a0 11) a5 r.2.2.2.2.2.2 r.2.2.2.2.2.1)))))) := by
  intro res h
  refine ctrI_of (cc := cX9_hours) (maxL := 4) (ret := (some .int)) (by decide +kernel) rfl (Nat.le_of_ble_eq_true rfl) (fun p e s m below meth c DA C0 hP hD ls hl => ?_)
  have hPD : WD G DA (wX9 G h0 a0 wk f0 A0 ++ (wX1 G (a0 1) a1 f1 A1 ++ (wX6 G (a0 2) a2 f2 A2 ++ (wB G (a0 5) g3 aB3 fB3 AB3 ++ (wX5 G (a0 6) a4 f4 A4 ++ (wX2 G (a0 11) a5 f5 A5)))))) s.heap := ⟨hP, hD⟩
  have hS : va_S DA s.heap s.heap [] := va_S.rf
  have hl : lv_has ls 4 [(0, .ref h0), (1, .int p1)] := hl
  obtain ⟨hx, hb, hml, hown, hts⟩ := C0.1
  have hK := C0.2.2.2.1
  unfold f9_hours at h
  refine lv_iload_n hx hb dX9_hours_0 rfl (lv_at hl 1 rfl) ?_
  obtain ⟨q_1, hq_1, h⟩ := ob2 h
  refine kSI (As := [.int p1]) (rest := []) C0 (kt_X9_isHours l G  p1 hq_1) gi_S_X9_165_X9_isHours (n := 1) rfl (by decide +kernel) ⟨rfl, rfl, Nat.le_of_ble_eq_true rfl, Nat.le_of_ble_eq_true rfl⟩ hPD hS [] [0, 1, 2, 3, 4, 5, 6, 7, 8, 9, 10, 11, 12, 13, 14, 15, 16, 17, 18, 19, 20, 21, 22, 23, 24, 25, 26, 27, 28, 29, 30, 31, 32, 33, 34, 35, 36, 37, 38, 39] [0, 1, 2, 3, 4, 5, 6, 7, 8, 9, 10, 11, 12, 13, 14, 15, 16, 17, 18, 19, 20, 21, 22, 23, 24, 25, 26, 27, 28, 29, 30, 31, 32, 33, 34, 35, 36, 37, 38, 39] (wN := (wX9 G h0 a0 wk f0 A0 ++ (wX1 G (a0 1) a1 f1 A1 ++ (wX6 G (a0 2) a2 f2 A2 ++ (wB G (a0 5) g3 aB3 fB3 AB3 ++ (wX5 G (a0 6) a4 f4 A4 ++ (wX2 G (a0 11) a5 f5 A5))))))) rfl rfl rfl rfl rfl hl.1 (Nat.le_of_ble_eq_true rfl) dX9_hours_1 (fun H locs hPD hS => ?_)
  refine lv_if_ne (tgt := 9) hx hb dX9_hours_4 (by decide) (fun cc1 => ?_) (fun cc1 => ?_)
  · have h := (if_neg cc1).symm.trans h
    refine lv_iconst (v := 0) hx hb dX9_hours_9 (by decide) ?_
    refine lv_istore_n (lv' := [(2, .int 0), (0, .ref h0), (1, .int p1)]) hx hb dX9_hours_10 rfl hl (by decide) rfl (fun ls hl => ?_)
    refine lv_iconst (v := 0) hx hb dX9_hours_11 (by decide) ?_
    refine lv_istore_n (lv' := [(3, .int 0), (2, .int 0), (0, .ref h0), (1, .int p1)]) hx hb dX9_hours_12 rfl hl (by decide) rfl (fun ls hl => ?_)
    exact ww_f9_hours_l13 C0 NF A2 f2 A4 f4 A5 f5 0 0 h _ _ _ hPD hS (lv_sub hl [2, 3, 1, 0] rfl)
  · have h := (if_pos cc1).symm.trans h
    refine lv_iconst (v := (-1)) hx hb dX9_hours_7 (by decide) ?_
    obtain rfl := Option.some.inj h
    exact eI C0 hPD.1 hPD.2 hS rfl dX9_hours_8
abbrev rmX9_canBeTried : Room := { frames := 3, cells := 0, slots := 0, locals := 64 }
set_option maxRecDepth 100000 in
set_option maxHeartbeats 4000000 in
theorem kt_X9_canBeTried (l : Launch) (G : Gp) (h0 : Nat) (a0 : Nat → Nat) (wk : Option Nat) (a1 : Nat → Nat) (a2 : Nat → Nat) (f0 : Nat → Int32) (A0 : Nat → Nat → Int32) (f1 : Nat → Int32) (A1 : Nat → Nat → Int32) (f2 : Nat → Int32) (A2 : Nat → Nat → Int32) (p1 : Int32) : ∀ {r : Int32}, f9_canBeTried f0 A0 f1 A1 f2 A2 p1 = some r → CtrI l yX9_canBeTried cX9_canBeTried 2 (some .boolean) rmX9_canBeTried G [.ref h0, .int p1] (wX9 G h0 a0 wk f0 A0 ++ (wX1 G (a0 1) a1 f1 A1 ++ (wX6 G (a0 2) a2 f2 A2))) r (wX9 G h0 a0 wk f0 A0 ++ (wX1 G (a0 1) a1 f1 A1 ++ (wX6 G (a0 2) a2 f2 A2))) := by
  intro res h
  refine ctrI_of (cc := cX9_canBeTried) (maxL := 2) (ret := (some .boolean)) (by decide +kernel) rfl (Nat.le_of_ble_eq_true rfl) (fun p e s m below meth c DA C0 hP hD ls hl => ?_)
  have hPD : WD G DA (wX9 G h0 a0 wk f0 A0 ++ (wX1 G (a0 1) a1 f1 A1 ++ (wX6 G (a0 2) a2 f2 A2))) s.heap := ⟨hP, hD⟩
  have hS : va_S DA s.heap s.heap [] := va_S.rf
  have hl : lv_has ls 2 [(0, .ref h0), (1, .int p1)] := hl
  obtain ⟨hx, hb, hml, hown, hts⟩ := C0.1
  have hK := C0.2.2.2.1
  unfold f9_canBeTried at h
  refine lv_iload_n hx hb dX9_canBeTried_0 rfl (lv_at hl 1 rfl) ?_
  refine lv_bipush (v := 30) hx hb dX9_canBeTried_1 (by decide) ?_
  refine lv_bipush (v := 45) hx hb dX9_canBeTried_3 (by decide) ?_
  refine kSI (As := [.int p1, .int 30, .int 45]) (rest := []) C0 (kt_X9_within l G  p1 30 45) gi_S_X9_90_X9_within (n := 3) rfl (by decide +kernel) ⟨rfl, rfl, Nat.le_of_ble_eq_true rfl, Nat.le_of_ble_eq_true rfl⟩ hPD hS [] [0, 1, 2, 3, 4, 5, 6, 7, 8, 9, 10, 11] [0, 1, 2, 3, 4, 5, 6, 7, 8, 9, 10, 11] (wN := (wX9 G h0 a0 wk f0 A0 ++ (wX1 G (a0 1) a1 f1 A1 ++ (wX6 G (a0 2) a2 f2 A2)))) rfl rfl rfl rfl rfl hl.1 (Nat.le_of_ble_eq_true rfl) dX9_canBeTried_5 (fun H locs hPD hS => ?_)
  refine lv_if_eq (tgt := 23) hx hb dX9_canBeTried_8 (by decide) (fun cc1 => ?_) (fun cc1 => ?_)
  · have h := (if_pos cc1).symm.trans h
    refine lv_iload_n hx hb dX9_canBeTried_23 rfl (lv_at hl 1 rfl) ?_
    refine lv_bipush (v := 20) hx hb dX9_canBeTried_24 (by decide) ?_
    refine lv_bipush (v := 27) hx hb dX9_canBeTried_26 (by decide) ?_
    refine kSI (As := [.int p1, .int 20, .int 27]) (rest := []) C0 (kt_X9_within l G  p1 20 27) gi_S_X9_90_X9_within (n := 3) rfl (by decide +kernel) ⟨rfl, rfl, Nat.le_of_ble_eq_true rfl, Nat.le_of_ble_eq_true rfl⟩ hPD hS [] [0, 1, 2, 3, 4, 5, 6, 7, 8, 9, 10, 11] [0, 1, 2, 3, 4, 5, 6, 7, 8, 9, 10, 11] (wN := (wX9 G h0 a0 wk f0 A0 ++ (wX1 G (a0 1) a1 f1 A1 ++ (wX6 G (a0 2) a2 f2 A2)))) rfl rfl rfl rfl rfl hl.1 (Nat.le_of_ble_eq_true rfl) dX9_canBeTried_28 (fun H locs hPD hS => ?_)
    refine lv_if_eq (tgt := 46) hx hb dX9_canBeTried_31 (by decide) (fun cc1 => ?_) (fun cc1 => ?_)
    · have h := (if_pos cc1).symm.trans h
      refine lv_iload_n hx hb dX9_canBeTried_46 rfl (lv_at hl 1 rfl) ?_
      refine lv_iconst (v := 0) hx hb dX9_canBeTried_47 (by decide) ?_
      refine lv_iconst (v := 2) hx hb dX9_canBeTried_48 (by decide) ?_
      refine kSI (As := [.int p1, .int 0, .int 2]) (rest := []) C0 (kt_X9_within l G  p1 0 2) gi_S_X9_90_X9_within (n := 3) rfl (by decide +kernel) ⟨rfl, rfl, Nat.le_of_ble_eq_true rfl, Nat.le_of_ble_eq_true rfl⟩ hPD hS [] [0, 1, 2, 3, 4, 5, 6, 7, 8, 9, 10, 11] [0, 1, 2, 3, 4, 5, 6, 7, 8, 9, 10, 11] (wN := (wX9 G h0 a0 wk f0 A0 ++ (wX1 G (a0 1) a1 f1 A1 ++ (wX6 G (a0 2) a2 f2 A2)))) rfl rfl rfl rfl rfl hl.1 (Nat.le_of_ble_eq_true rfl) dX9_canBeTried_49 (fun H locs hPD hS => ?_)
      refine lv_if_ne (tgt := 80) hx hb dX9_canBeTried_52 (by decide) (fun cc1 => ?_) (fun cc1 => ?_)
      · have h := (if_neg cc1).symm.trans h
        refine lv_iconst (v := 1) hx hb dX9_canBeTried_80 (by decide) ?_
        refine lv_goto (tgt := 85) hx hb dX9_canBeTried_81 (by decide) ?_
        obtain rfl := Option.some.inj h
        exact eZ C0 hPD.1 hPD.2 hS rfl rfl dX9_canBeTried_85
      · have h := (if_pos cc1).symm.trans h
        refine lv_iload_n hx hb dX9_canBeTried_55 rfl (lv_at hl 1 rfl) ?_
        refine lv_bipush (v := 10) hx hb dX9_canBeTried_56 (by decide) ?_
        refine lv_bipush (v := 17) hx hb dX9_canBeTried_58 (by decide) ?_
        refine kSI (As := [.int p1, .int 10, .int 17]) (rest := []) C0 (kt_X9_within l G  p1 10 17) gi_S_X9_90_X9_within (n := 3) rfl (by decide +kernel) ⟨rfl, rfl, Nat.le_of_ble_eq_true rfl, Nat.le_of_ble_eq_true rfl⟩ hPD hS [] [0, 1, 2, 3, 4, 5, 6, 7, 8, 9, 10, 11] [0, 1, 2, 3, 4, 5, 6, 7, 8, 9, 10, 11] (wN := (wX9 G h0 a0 wk f0 A0 ++ (wX1 G (a0 1) a1 f1 A1 ++ (wX6 G (a0 2) a2 f2 A2)))) rfl rfl rfl rfl rfl hl.1 (Nat.le_of_ble_eq_true rfl) dX9_canBeTried_60 (fun H locs hPD hS => ?_)
        refine lv_if_eq (tgt := 84) hx hb dX9_canBeTried_63 (by decide) (fun cc1 => ?_) (fun cc1 => ?_)
        · have h := (if_pos cc1).symm.trans h
          refine lv_iconst (v := 0) hx hb dX9_canBeTried_84 (by decide) ?_
          obtain rfl := Option.some.inj h
          exact eZ C0 hPD.1 hPD.2 hS rfl rfl dX9_canBeTried_85
        · have h := (if_neg cc1).symm.trans h
          refine lv_aload_n hx hb dX9_canBeTried_66 rfl (lv_at hl 0 rfl) ?_
          refine va_get (D := G.1) (ci := 9) (v := .ref (a0 2)) (C := RX9) (T := TX9) (N := 15) hx hb hts inlX9 hown hK hPD.1 0 rfl rfl 2 (by decide) (hts _ gw_356) (fun _ h9 => h9) rfl dX9_canBeTried_67 ?_
          refine lv_iload_n hx hb dX9_canBeTried_70 rfl (lv_at hl 1 rfl) ?_
          refine lv_bipush (v := 10) hx hb dX9_canBeTried_71 (by decide) ?_
          refine lv_isub hx hb dX9_canBeTried_73 ?_
          refine kVI (As := [.int (p1 - 10)]) (rest := []) C0 (kt_X6_isTold l G (a0 2) a2 f2 A2 (p1 - 10)) gi_V_X9_195_X6_isTold (n := 1) rfl (by decide +kernel) rfl ⟨rfl, rfl, Nat.le_of_ble_eq_true rfl, Nat.le_of_ble_eq_true rfl⟩ hPD hS 6 6 rfl rfl rfl [6, 7, 8, 9, 10, 11] [0, 1, 2, 3, 4, 5] [0, 1, 2, 3, 4, 5, 6, 7, 8, 9, 10, 11] (wN := (wX9 G h0 a0 wk f0 A0 ++ (wX1 G (a0 1) a1 f1 A1 ++ (wX6 G (a0 2) a2 f2 A2)))) rfl rfl rfl rfl rfl hl.1 (Nat.le_of_ble_eq_true rfl) dX9_canBeTried_74 (fun H locs hPD hS => ?_)
          refine lv_if_eq (tgt := 84) hx hb dX9_canBeTried_77 (by decide) (fun cc1 => ?_) (fun cc1 => ?_)
          · have h := (if_pos cc1).symm.trans h
            refine lv_iconst (v := 0) hx hb dX9_canBeTried_84 (by decide) ?_
            obtain rfl := Option.some.inj h
            exact eZ C0 hPD.1 hPD.2 hS rfl rfl dX9_canBeTried_85
          · have h := (if_neg cc1).symm.trans h
            refine lv_iconst (v := 1) hx hb dX9_canBeTried_80 (by decide) ?_
            refine lv_goto (tgt := 85) hx hb dX9_canBeTried_81 (by decide) ?_
            obtain rfl := Option.some.inj h
            exact eZ C0 hPD.1 hPD.2 hS rfl rfl dX9_canBeTried_85
    · have h := (if_neg cc1).symm.trans h
      refine lv_aload_n hx hb dX9_canBeTried_34 rfl (lv_at hl 0 rfl) ?_
      refine va_get (D := G.1) (ci := 9) (v := .ref (a0 2)) (C := RX9) (T := TX9) (N := 15) hx hb hts inlX9 hown hK hPD.1 0 rfl rfl 2 (by decide) (hts _ gw_356) (fun _ h9 => h9) rfl dX9_canBeTried_35 ?_
      refine lv_iload_n hx hb dX9_canBeTried_38 rfl (lv_at hl 1 rfl) ?_
      refine lv_bipush (v := 20) hx hb dX9_canBeTried_39 (by decide) ?_
      refine lv_isub hx hb dX9_canBeTried_41 ?_
      refine kVI (As := [.int (p1 - 20)]) (rest := []) C0 (kt_X6_isTold l G (a0 2) a2 f2 A2 (p1 - 20)) gi_V_X9_195_X6_isTold (n := 1) rfl (by decide +kernel) rfl ⟨rfl, rfl, Nat.le_of_ble_eq_true rfl, Nat.le_of_ble_eq_true rfl⟩ hPD hS 6 6 rfl rfl rfl [6, 7, 8, 9, 10, 11] [0, 1, 2, 3, 4, 5] [0, 1, 2, 3, 4, 5, 6, 7, 8, 9, 10, 11] (wN := (wX9 G h0 a0 wk f0 A0 ++ (wX1 G (a0 1) a1 f1 A1 ++ (wX6 G (a0 2) a2 f2 A2)))) rfl rfl rfl rfl rfl hl.1 (Nat.le_of_ble_eq_true rfl) dX9_canBeTried_42 (fun H locs hPD hS => ?_)
      obtain ⟨hz, h⟩ := ob h
      obtain rfl := Option.some.inj h
      exact eZ C0 hPD.1 hPD.2 hS rfl (nbool (Classical.not_not.mp hz)) dX9_canBeTried_45
  · have h := (if_neg cc1).symm.trans h
    refine lv_aload_n hx hb dX9_canBeTried_11 rfl (lv_at hl 0 rfl) ?_
    refine va_get (D := G.1) (ci := 9) (v := .ref (a0 1)) (C := RX9) (T := TX9) (N := 15) hx hb hts inlX9 hown hK hPD.1 0 rfl rfl 1 (by decide) (hts _ gw_354) (fun _ h9 => h9) rfl dX9_canBeTried_12 ?_
    refine lv_iload_n hx hb dX9_canBeTried_15 rfl (lv_at hl 1 rfl) ?_
    refine lv_bipush (v := 30) hx hb dX9_canBeTried_16 (by decide) ?_
    refine lv_isub hx hb dX9_canBeTried_18 ?_
    refine kVI (As := [.int (p1 - 30)]) (rest := []) C0 (kt_X1_isTold l G (a0 1) a1 f1 A1 (p1 - 30)) gi_V_X9_108_X1_isTold (n := 1) rfl (by decide +kernel) rfl ⟨rfl, rfl, Nat.le_of_ble_eq_true rfl, Nat.le_of_ble_eq_true rfl⟩ hPD hS 2 1 rfl rfl rfl [2, 3, 4, 5] [0, 1, 6, 7, 8, 9, 10, 11] [0, 1, 8, 9, 10, 11, 2, 3, 4, 5, 6, 7] (wN := (wX9 G h0 a0 wk f0 A0 ++ (wX1 G (a0 1) a1 f1 A1 ++ (wX6 G (a0 2) a2 f2 A2)))) rfl rfl rfl rfl rfl hl.1 (Nat.le_of_ble_eq_true rfl) dX9_canBeTried_19 (fun H locs hPD hS => ?_)
    obtain ⟨hz, h⟩ := ob h
    obtain rfl := Option.some.inj h
    exact eZ C0 hPD.1 hPD.2 hS rfl (nbool (Classical.not_not.mp hz)) dX9_canBeTried_22
abbrev rmX9_tried : Room := { frames := 7, cells := 0, slots := 0, locals := 159 }
set_option maxRecDepth 100000 in
set_option maxHeartbeats 4000000 in
theorem ww_f9_tried_b81  (C0 : Cx cX9_tried 6 (some .int) RX9 p s m args meth c G DA) {h0 : Nat} {a0 : Nat → Nat} {wk : Option Nat} {a1 : Nat → Nat} {a2 : Nat → Nat} {a3 : Nat → Nat} {g4 : Nat → Nat} {aB4 : Nat → Nat → Nat} {a5 : Nat → Nat} {a6 : Nat → Nat} {f0 : Nat → Int32} {A0 : Nat → Nat → Int32} {f1 : Nat → Int32} {A1 : Nat → Nat → Int32} {f2 : Nat → Int32} {A2 : Nat → Nat → Int32} {fB4 : Nat → Nat → Int32} {AB4 : Nat → Nat → Nat → Int32} {p1 : Int32} {p2 : Int32}   {res : Int32 × (Nat → Nat → Int32) × (Nat → Int32) × (Nat → Nat → Int32) × (Nat → Int32) × (Nat → Nat → Int32) × (Nat → Int32)}  : ∀ (A3 : Nat → Nat → Int32) (f3 : Nat → Int32) (A5 : Nat → Nat → Int32) (f5 : Nat → Int32) (A6 : Nat → Nat → Int32) (f6 : Nat → Int32) (l3 : Int32) (l4 : Int32), f9_tried_b81 f0 A0 f1 A1 f2 A2 fB4 AB4 p1 p2  A3 f3 A5 f5 A6 f6 l3 l4 = some res → ∀ (H : Heap) (locs : List Loc) (ls : Array Slot), WD G DA (wX9 G h0 a0 wk f0 A0 ++ (wX1 G (a0 1) a1 f1 A1 ++ (wX6 G (a0 2) a2 f2 A2 ++ (wX6 G (a0 3) a3 f3 A3 ++ (wB G (a0 5) g4 aB4 fB4 AB4 ++ (wX5 G (a0 6) a5 f5 A5 ++ (wX2 G (a0 11) a6 f6 A6))))))) H → va_S DA s.heap H locs → lv_has ls 6 [(0, .ref h0), (1, .int p1), (2, .int p2), (3, .int l3), (4, .int l4)] → W p l e rmX9_tried s m args below meth c H locs 0 0 (MQ below (QI G DA res.1 (wX9 G h0 a0 wk f0 A0 ++ (wX1 G (a0 1) a1 f1 A1 ++ (wX6 G (a0 2) a2 f2 A2 ++ (wX6 G (a0 3) a3 res.2.2.1 res.2.1 ++ (wB G (a0 5) g4 aB4 fB4 AB4 ++ (wX5 G (a0 6) a5 res.2.2.2.2.1 res.2.2.2.1 ++ (wX2 G (a0 11) a6 res.2.2.2.2.2.2 res.2.2.2.2.2.1)))))))) args s 0 0 DA) (F0 m 81 ls []) := by
  obtain ⟨hx, hb, hml, hown, hts⟩ := C0.1
  have hK := C0.2.2.2.1
  intro A3 f3 A5 f5 A6 f6 l3 l4 h _ _ _ hPD hS hl
  unfold f9_tried_b81 at h
  refine lv_iload_n hx hb dX9_tried_81 rfl (lv_at hl 2 rfl) ?_
  refine lv_if_ne (tgt := 87) hx hb dX9_tried_82 (by decide) (fun cc1 => ?_) (fun cc1 => ?_)
  · have h := (if_neg cc1).symm.trans h
    refine lv_iload_n hx hb dX9_tried_87 rfl (lv_at hl 2 rfl) ?_
    refine lv_iconst (v := 1) hx hb dX9_tried_88 (by decide) ?_
    refine lv_icmp_ne (tgt := 95) hx hb dX9_tried_89 (by decide) (fun cc1 => ?_) (fun cc1 => ?_)
    · have h := (if_neg cc1).symm.trans h
      refine lv_iload_n hx hb dX9_tried_95 rfl (lv_at hl 2 rfl) ?_
      refine lv_iconst (v := 2) hx hb dX9_tried_96 (by decide) ?_
      refine lv_icmp_ne (tgt := 116) hx hb dX9_tried_97 (by decide) (fun cc1 => ?_) (fun cc1 => ?_)
      · have h := (if_neg cc1).symm.trans h
        refine lv_iload_n hx hb dX9_tried_116 rfl (lv_at hl 2 rfl) ?_
        refine lv_bipush (v := 20) hx hb dX9_tried_117 (by decide) ?_
        refine lv_icmp_ge (tgt := 137) hx hb dX9_tried_119 (by decide) (fun cc1 => ?_) (fun cc1 => ?_)
        · have h := (if_pos cc1).symm.trans h
          refine lv_iload_n hx hb dX9_tried_137 rfl (lv_at hl 2 rfl) ?_
          refine lv_bipush (v := 30) hx hb dX9_tried_138 (by decide) ?_
          refine lv_icmp_ge (tgt := 160) hx hb dX9_tried_140 (by decide) (fun cc1 => ?_) (fun cc1 => ?_)
          · have h := (if_pos cc1).symm.trans h
            refine lv_aload_n hx hb dX9_tried_160 rfl (lv_at hl 0 rfl) ?_
            refine va_get (D := G.1) (ci := 9) (v := .ref (a0 3)) (C := RX9) (T := TX9) (N := 15) hx hb hts inlX9 hown hK hPD.1 0 rfl rfl 3 (by decide) (hts _ gw_427) (fun _ h9 => h9) rfl dX9_tried_161 ?_
            refine va_get (D := G.1) (ci := 6) (v := .ref (a3 2)) (C := RX6) (T := TX6) (N := 10) hx hb hts inlX6 hown hK hPD.1 12 rfl rfl 2 (by decide) (hts _ gw_432) (fun _ h9 => h9) rfl dX9_tried_164 ?_
            refine lv_iload_n hx hb dX9_tried_167 rfl (lv_at hl 2 rfl) ?_
            refine lv_bipush (v := 30) hx hb dX9_tried_168 (by decide) ?_
            refine lv_isub hx hb dX9_tried_170 ?_
            refine kSI (As := [.ref (a3 2), .int (p2 - 30)]) (rest := []) C0 (kt_X9_at l G (a3 2) 16 (A3 2) (p2 - 30) (by decide)) gi_S_X9_188_X9_at (n := 2) rfl (by decide +kernel) ⟨rfl, rfl, Nat.le_of_ble_eq_true rfl, Nat.le_of_ble_eq_true rfl⟩ hPD hS [15] [0, 1, 2, 3, 4, 5, 6, 7, 8, 9, 10, 11, 12, 13, 14, 16, 17, 18, 19, 20, 21, 22, 23, 24, 25, 26, 27, 28, 29, 30, 31, 32, 33, 34, 35, 36, 37, 38, 39, 40, 41, 42, 43, 44, 45] [0, 1, 2, 3, 4, 5, 6, 7, 8, 9, 10, 11, 12, 13, 14, 45, 15, 16, 17, 18, 19, 20, 21, 22, 23, 24, 25, 26, 27, 28, 29, 30, 31, 32, 33, 34, 35, 36, 37, 38, 39, 40, 41, 42, 43, 44] (wN := (wX9 G h0 a0 wk f0 A0 ++ (wX1 G (a0 1) a1 f1 A1 ++ (wX6 G (a0 2) a2 f2 A2 ++ (wX6 G (a0 3) a3 f3 A3 ++ (wB G (a0 5) g4 aB4 fB4 AB4 ++ (wX5 G (a0 6) a5 f5 A5 ++ (wX2 G (a0 11) a6 f6 A6)))))))) rfl rfl rfl rfl rfl hl.1 (Nat.le_of_ble_eq_true rfl) dX9_tried_171 (fun H locs hPD hS => ?_)
            obtain rfl := Option.some.inj h
            exact eI C0 hPD.1 hPD.2 hS rfl dX9_tried_174
          · have h := (if_neg cc1).symm.trans h
            refine lv_aload_n hx hb dX9_tried_143 rfl (lv_at hl 0 rfl) ?_
            refine va_get (D := G.1) (ci := 9) (v := .ref (a0 3)) (C := RX9) (T := TX9) (N := 15) hx hb hts inlX9 hown hK hPD.1 0 rfl rfl 3 (by decide) (hts _ gw_427) (fun _ h9 => h9) rfl dX9_tried_144 ?_
            refine va_get (D := G.1) (ci := 6) (v := .ref (a3 4)) (C := RX6) (T := TX6) (N := 10) hx hb hts inlX6 hown hK hPD.1 12 rfl rfl 4 (by decide) (hts _ gw_363) (fun _ h9 => h9) rfl dX9_tried_147 ?_
            refine lv_iload_n hx hb dX9_tried_150 rfl (lv_at hl 2 rfl) ?_
            refine lv_bipush (v := 20) hx hb dX9_tried_151 (by decide) ?_
            refine lv_isub hx hb dX9_tried_153 ?_
            refine kSI (As := [.ref (a3 4), .int (p2 - 20)]) (rest := []) C0 (kt_X9_at l G (a3 4) 8 (A3 4) (p2 - 20) (by decide)) gi_S_X9_188_X9_at (n := 2) rfl (by decide +kernel) ⟨rfl, rfl, Nat.le_of_ble_eq_true rfl, Nat.le_of_ble_eq_true rfl⟩ hPD hS [17] [0, 1, 2, 3, 4, 5, 6, 7, 8, 9, 10, 11, 12, 13, 14, 15, 16, 18, 19, 20, 21, 22, 23, 24, 25, 26, 27, 28, 29, 30, 31, 32, 33, 34, 35, 36, 37, 38, 39, 40, 41, 42, 43, 44, 45] [0, 1, 2, 3, 4, 5, 6, 7, 8, 9, 10, 11, 12, 13, 14, 15, 16, 45, 17, 18, 19, 20, 21, 22, 23, 24, 25, 26, 27, 28, 29, 30, 31, 32, 33, 34, 35, 36, 37, 38, 39, 40, 41, 42, 43, 44] (wN := (wX9 G h0 a0 wk f0 A0 ++ (wX1 G (a0 1) a1 f1 A1 ++ (wX6 G (a0 2) a2 f2 A2 ++ (wX6 G (a0 3) a3 f3 A3 ++ (wB G (a0 5) g4 aB4 fB4 AB4 ++ (wX5 G (a0 6) a5 f5 A5 ++ (wX2 G (a0 11) a6 f6 A6)))))))) rfl rfl rfl rfl rfl hl.1 (Nat.le_of_ble_eq_true rfl) dX9_tried_154 (fun H locs hPD hS => ?_)
            refine lv_goto (tgt := 174) hx hb dX9_tried_157 (by decide) ?_
            obtain rfl := Option.some.inj h
            exact eI C0 hPD.1 hPD.2 hS rfl dX9_tried_174
        · have h := (if_neg cc1).symm.trans h
          refine lv_aload_n hx hb dX9_tried_122 rfl (lv_at hl 0 rfl) ?_
          refine va_get (D := G.1) (ci := 9) (v := .ref (a0 3)) (C := RX9) (T := TX9) (N := 15) hx hb hts inlX9 hown hK hPD.1 0 rfl rfl 3 (by decide) (hts _ gw_427) (fun _ h9 => h9) rfl dX9_tried_123 ?_
          refine va_get (D := G.1) (ci := 6) (v := .ref (a3 3)) (C := RX6) (T := TX6) (N := 10) hx hb hts inlX6 hown hK hPD.1 12 rfl rfl 3 (by decide) (hts _ gw_362) (fun _ h9 => h9) rfl dX9_tried_126 ?_
          refine lv_iload_n hx hb dX9_tried_129 rfl (lv_at hl 2 rfl) ?_
          refine lv_bipush (v := 10) hx hb dX9_tried_130 (by decide) ?_
          refine lv_isub hx hb dX9_tried_132 ?_
          refine kSI (As := [.ref (a3 3), .int (p2 - 10)]) (rest := []) C0 (kt_X9_at l G (a3 3) 8 (A3 3) (p2 - 10) (by decide)) gi_S_X9_188_X9_at (n := 2) rfl (by decide +kernel) ⟨rfl, rfl, Nat.le_of_ble_eq_true rfl, Nat.le_of_ble_eq_true rfl⟩ hPD hS [16] [0, 1, 2, 3, 4, 5, 6, 7, 8, 9, 10, 11, 12, 13, 14, 15, 17, 18, 19, 20, 21, 22, 23, 24, 25, 26, 27, 28, 29, 30, 31, 32, 33, 34, 35, 36, 37, 38, 39, 40, 41, 42, 43, 44, 45] [0, 1, 2, 3, 4, 5, 6, 7, 8, 9, 10, 11, 12, 13, 14, 15, 45, 16, 17, 18, 19, 20, 21, 22, 23, 24, 25, 26, 27, 28, 29, 30, 31, 32, 33, 34, 35, 36, 37, 38, 39, 40, 41, 42, 43, 44] (wN := (wX9 G h0 a0 wk f0 A0 ++ (wX1 G (a0 1) a1 f1 A1 ++ (wX6 G (a0 2) a2 f2 A2 ++ (wX6 G (a0 3) a3 f3 A3 ++ (wB G (a0 5) g4 aB4 fB4 AB4 ++ (wX5 G (a0 6) a5 f5 A5 ++ (wX2 G (a0 11) a6 f6 A6)))))))) rfl rfl rfl rfl rfl hl.1 (Nat.le_of_ble_eq_true rfl) dX9_tried_133 (fun H locs hPD hS => ?_)
          obtain rfl := Option.some.inj h
          exact eI C0 hPD.1 hPD.2 hS rfl dX9_tried_136
      · have h := (if_pos cc1).symm.trans h
        refine lv_aload_n hx hb dX9_tried_100 rfl (lv_at hl 0 rfl) ?_
        refine va_get (D := G.1) (ci := 9) (v := .ref (a0 3)) (C := RX9) (T := TX9) (N := 15) hx hb hts inlX9 hown hK hPD.1 0 rfl rfl 3 (by decide) (hts _ gw_427) (fun _ h9 => h9) rfl dX9_tried_101 ?_
        refine va_get (D := G.1) (ci := 6) (v := .int (f3 6)) (C := RX6) (T := TX6) (N := 10) hx hb hts inlX6 hown hK hPD.1 12 rfl rfl 6 (by decide) (hts _ gw_434) (fun _ h9 => h9) rfl dX9_tried_104 ?_
        refine lv_aload_n hx hb dX9_tried_107 rfl (lv_at hl 0 rfl) ?_
        refine va_get (D := G.1) (ci := 9) (v := .ref (a0 2)) (C := RX9) (T := TX9) (N := 15) hx hb hts inlX9 hown hK hPD.1 0 rfl rfl 2 (by decide) (hts _ gw_356) (fun _ h9 => h9) rfl dX9_tried_108 ?_
        refine va_get (D := G.1) (ci := 6) (v := .int (f2 6)) (C := RX6) (T := TX6) (N := 10) hx hb hts inlX6 hown hK hPD.1 6 rfl rfl 6 (by decide) (hts _ gw_434) (fun _ h9 => h9) rfl dX9_tried_111 ?_
        refine lv_isub hx hb dX9_tried_114 ?_
        obtain rfl := Option.some.inj h
        exact eI C0 hPD.1 hPD.2 hS rfl dX9_tried_115
    · have h := (if_pos cc1).symm.trans h
      refine lv_iload hx hb dX9_tried_92 (lv_at hl 4 rfl) ?_
      obtain rfl := Option.some.inj h
      exact eI C0 hPD.1 hPD.2 hS rfl dX9_tried_94
  · have h := (if_pos cc1).symm.trans h
    refine lv_iload_n hx hb dX9_tried_85 rfl (lv_at hl 3 rfl) ?_
    obtain rfl := Option.some.inj h
    exact eI C0 hPD.1 hPD.2 hS rfl dX9_tried_86
set_option maxRecDepth 100000 in
set_option maxHeartbeats 4000000 in
theorem ww_f9_tried_b36  (C0 : Cx cX9_tried 6 (some .int) RX9 p s m args meth c G DA) {h0 : Nat} {a0 : Nat → Nat} {wk : Option Nat} {a1 : Nat → Nat} {a2 : Nat → Nat} {a3 : Nat → Nat} {g4 : Nat → Nat} {aB4 : Nat → Nat → Nat} {a5 : Nat → Nat} {a6 : Nat → Nat} {f0 : Nat → Int32} {A0 : Nat → Nat → Int32} {f1 : Nat → Int32} {A1 : Nat → Nat → Int32} {f2 : Nat → Int32} {A2 : Nat → Nat → Int32} {fB4 : Nat → Nat → Int32} {AB4 : Nat → Nat → Nat → Int32} {p1 : Int32} {p2 : Int32}  {k36 : (Nat → Nat → Int32) → (Nat → Int32) → (Nat → Nat → Int32) → (Nat → Int32) → (Nat → Nat → Int32) → (Nat → Int32) → Int32 → Int32 → Int32 → Option (Int32 × (Nat → Nat → Int32) × (Nat → Int32) × (Nat → Nat → Int32) × (Nat → Int32) × (Nat → Nat → Int32) × (Nat → Int32))} {res : Int32 × (Nat → Nat → Int32) × (Nat → Int32) × (Nat → Nat → Int32) × (Nat → Int32) × (Nat → Nat → Int32) × (Nat → Int32)}  (hk36 : ∀ (A3 : Nat → Nat → Int32) (f3 : Nat → Int32) (A5 : Nat → Nat → Int32) (f5 : Nat → Int32) (A6 : Nat → Nat → Int32) (f6 : Nat → Int32) (l3 : Int32) (l4 : Int32) (l5 : Int32), k36 A3 f3 A5 f5 A6 f6 l3 l4 l5 = some res → ∀ (H : Heap) (locs : List Loc) (ls : Array Slot), WD G DA (wX9 G h0 a0 wk f0 A0 ++ (wX1 G (a0 1) a1 f1 A1 ++ (wX6 G (a0 2) a2 f2 A2 ++ (wX6 G (a0 3) a3 f3 A3 ++ (wB G (a0 5) g4 aB4 fB4 AB4 ++ (wX5 G (a0 6) a5 f5 A5 ++ (wX2 G (a0 11) a6 f6 A6))))))) H → va_S DA s.heap H locs → lv_has ls 6 [(0, .ref h0), (1, .int p1), (2, .int p2), (3, .int l3), (4, .int l4), (5, .int l5)] → W p l e rmX9_tried s m args below meth c H locs 0 0 (MQ below (QI G DA res.1 (wX9 G h0 a0 wk f0 A0 ++ (wX1 G (a0 1) a1 f1 A1 ++ (wX6 G (a0 2) a2 f2 A2 ++ (wX6 G (a0 3) a3 res.2.2.1 res.2.1 ++ (wB G (a0 5) g4 aB4 fB4 AB4 ++ (wX5 G (a0 6) a5 res.2.2.2.2.1 res.2.2.2.1 ++ (wX2 G (a0 11) a6 res.2.2.2.2.2.2 res.2.2.2.2.2.1)))))))) args s 0 0 DA) (F0 m 36 ls [])) : ∀ (A3 : Nat → Nat → Int32) (f3 : Nat → Int32) (A5 : Nat → Nat → Int32) (f5 : Nat → Int32) (A6 : Nat → Nat → Int32) (f6 : Nat → Int32) (l3 : Int32) (l4 : Int32) (l5 : Int32), f9_tried_b36 f0 A0 f1 A1 f2 A2 fB4 AB4 p1 p2  k36 A3 f3 A5 f5 A6 f6 l3 l4 l5 = some res → ∀ (H : Heap) (locs : List Loc) (ls : Array Slot), WD G DA (wX9 G h0 a0 wk f0 A0 ++ (wX1 G (a0 1) a1 f1 A1 ++ (wX6 G (a0 2) a2 f2 A2 ++ (wX6 G (a0 3) a3 f3 A3 ++ (wB G (a0 5) g4 aB4 fB4 AB4 ++ (wX5 G (a0 6) a5 f5 A5 ++ (wX2 G (a0 11) a6 f6 A6))))))) H → va_S DA s.heap H locs → lv_has ls 6 [(0, .ref h0), (1, .int p1), (2, .int p2), (3, .int l3), (4, .int l4), (5, .int l5)] → W p l e rmX9_tried s m args below meth c H locs 0 0 (MQ below (QI G DA res.1 (wX9 G h0 a0 wk f0 A0 ++ (wX1 G (a0 1) a1 f1 A1 ++ (wX6 G (a0 2) a2 f2 A2 ++ (wX6 G (a0 3) a3 res.2.2.1 res.2.1 ++ (wB G (a0 5) g4 aB4 fB4 AB4 ++ (wX5 G (a0 6) a5 res.2.2.2.2.1 res.2.2.2.1 ++ (wX2 G (a0 11) a6 res.2.2.2.2.2.2 res.2.2.2.2.2.1)))))))) args s 0 0 DA) (F0 m 36 ls []) := by
  obtain ⟨hx, hb, hml, hown, hts⟩ := C0.1
  have hK := C0.2.2.2.1
  intro A3 f3 A5 f5 A6 f6 l3 l4 l5 h _ _ _ hPD hS hl
  unfold f9_tried_b36 at h
  refine lv_iload hx hb dX9_tried_36 (lv_at hl 5 rfl) ?_
  refine lv_iload_n hx hb dX9_tried_38 rfl (lv_at hl 1 rfl) ?_
  refine lv_icmp_ge (tgt := 81) hx hb dX9_tried_39 (by decide) (fun cc1 => ?_) (fun cc1 => ?_)
  · have h := (if_pos cc1).symm.trans h
    exact ww_f9_tried_b81 C0 A3 f3 A5 f5 A6 f6 l3 l4 h _ _ _ hPD hS (lv_sub hl [0, 1, 2, 3, 4] rfl)
  · have h := (if_neg cc1).symm.trans h
    refine lv_aload_n hx hb dX9_tried_42 rfl (lv_at hl 0 rfl) ?_
    refine lv_aload_n hx hb dX9_tried_43 rfl (lv_at hl 0 rfl) ?_
    refine va_get (D := G.1) (ci := 9) (v := .ref (a0 3)) (C := RX9) (T := TX9) (N := 15) hx hb hts inlX9 hown hK hPD.1 0 rfl rfl 3 (by decide) (hts _ gw_427) (fun _ h9 => h9) rfl dX9_tried_44 ?_
    obtain ⟨q_4, hq_4, h⟩ := ob2 h
    refine kVI (As := [.ref (a0 3)]) (rest := []) C0 (kt_X9_passes l G h0 a0 wk a1 g4 aB4 a5 a6 (a0 3) a3 f0 A0 f1 A1 fB4 AB4 f5 A5 f6 A6 f3 A3 hq_4) gi_V_X9_168_X9_passes (n := 1) rfl (by decide +kernel) rfl ⟨rfl, rfl, Nat.le_of_ble_eq_true rfl, Nat.le_of_ble_eq_true rfl⟩ hPD hS 0 9 rfl rfl rfl [0, 1, 2, 3, 4, 5, 18, 19, 20, 21, 22, 23, 24, 25, 26, 27, 28, 29, 30, 31, 32, 33, 34, 35, 36, 37, 38, 39, 40, 41, 42, 43, 44, 45, 12, 13, 14, 15, 16, 17] [6, 7, 8, 9, 10, 11] [6, 7, 8, 9, 10, 11, 0, 1, 2, 3, 4, 5, 40, 41, 42, 43, 44, 45, 12, 13, 14, 15, 16, 17, 18, 19, 20, 21, 22, 23, 24, 25, 26, 27, 28, 29, 30, 31, 32, 33, 34, 35, 36, 37, 38, 39] (wN := (wX9 G h0 a0 wk f0 A0 ++ (wX1 G (a0 1) a1 f1 A1 ++ (wX6 G (a0 2) a2 f2 A2 ++ (wX6 G (a0 3) a3 q_4.2.2.2.2.2.2 q_4.2.2.2.2.2.1 ++ (wB G (a0 5) g4 aB4 fB4 AB4 ++ (wX5 G (a0 6) a5 q_4.2.2.1 q_4.2.1 ++ (wX2 G (a0 11) a6 q_4.2.2.2.2.1 q_4.2.2.2.1)))))))) rfl rfl rfl rfl rfl hl.1 (Nat.le_of_ble_eq_true rfl) dX9_tried_47 (fun H locs hPD hS => ?_)
    refine lv_if_eq (tgt := 81) hx hb dX9_tried_50 (by decide) (fun cc1 => ?_) (fun cc1 => ?_)
    · have h := (if_pos cc1).symm.trans h
      exact ww_f9_tried_b81 C0 q_4.2.2.2.2.2.1 q_4.2.2.2.2.2.2 q_4.2.1 q_4.2.2.1 q_4.2.2.2.1 q_4.2.2.2.2.1 l3 l4 h _ _ _ hPD hS (lv_sub hl [0, 1, 2, 3, 4] rfl)
    · have h := (if_neg cc1).symm.trans h
      refine lv_iload_n hx hb dX9_tried_53 rfl (lv_at hl 3 rfl) ?_
      refine lv_aload_n hx hb dX9_tried_54 rfl (lv_at hl 0 rfl) ?_
      refine va_get (D := G.1) (ci := 9) (v := .ref (a0 6)) (C := RX9) (T := TX9) (N := 15) hx hb hts inlX9 hown hK hPD.1 0 rfl rfl 6 (by decide) (hts _ gw_409) (fun _ h9 => h9) rfl dX9_tried_55 ?_
      refine va_get (D := G.1) (ci := 5) (v := .int (q_4.2.2.1 2)) (C := RX5) (T := TX5) (N := 4) hx hb hts inlX5 hown hK hPD.1 35 rfl rfl 2 (by decide) (hts _ gw_421) (fun _ h9 => h9) rfl dX9_tried_58 ?_
      refine lv_iadd hx hb dX9_tried_61 ?_
      refine lv_istore_n (lv' := [(3, .int (l3 + (q_4.2.2.1 2))), (0, .ref h0), (1, .int p1), (2, .int p2), (4, .int l4), (5, .int l5)]) hx hb dX9_tried_62 rfl hl (by decide) rfl (fun ls hl => ?_)
      refine lv_iload hx hb dX9_tried_63 (lv_at hl 4 rfl) ?_
      refine lv_aload_n hx hb dX9_tried_65 rfl (lv_at hl 1 rfl) ?_
      refine va_get (D := G.1) (ci := 9) (v := .ref (a0 6)) (C := RX9) (T := TX9) (N := 15) hx hb hts inlX9 hown hK hPD.1 0 rfl rfl 6 (by decide) (hts _ gw_409) (fun _ h9 => h9) rfl dX9_tried_66 ?_
      refine va_get (D := G.1) (ci := 5) (v := .int (q_4.2.2.1 3)) (C := RX5) (T := TX5) (N := 4) hx hb hts inlX5 hown hK hPD.1 35 rfl rfl 3 (by decide) (hts _ gw_435) (fun _ h9 => h9) rfl dX9_tried_69 ?_
      refine lv_iadd hx hb dX9_tried_72 ?_
      refine lv_istore (lv' := [(4, .int (l4 + (q_4.2.2.1 3))), (3, .int (l3 + (q_4.2.2.1 2))), (0, .ref h0), (1, .int p1), (2, .int p2), (5, .int l5)]) hx hb dX9_tried_73 hl (by decide) rfl (fun ls hl => ?_)
      refine lv_iinc (v := l5 + 1) (lv' := [(5, .int (l5 + 1)), (4, .int (l4 + (q_4.2.2.1 3))), (3, .int (l3 + (q_4.2.2.1 2))), (0, .ref h0), (1, .int p1), (2, .int p2)]) hx hb dX9_tried_75 hl (k := 5) rfl rfl (by decide) rfl (fun ls hl => ?_)
      refine lv_goto (tgt := 36) hx hb dX9_tried_78 (by decide) ?_
      exact hk36 q_4.2.2.2.2.2.1 q_4.2.2.2.2.2.2 q_4.2.1 q_4.2.2.1 q_4.2.2.2.1 q_4.2.2.2.2.1 (l3 + (q_4.2.2.1 2)) (l4 + (q_4.2.2.1 3)) (l5 + 1) h _ _ _ hPD hS (lv_sub hl [3, 4, 5, 2, 1, 0] rfl)
set_option maxRecDepth 100000 in
set_option maxHeartbeats 4000000 in
theorem ww_f9_tried_l36  (C0 : Cx cX9_tried 6 (some .int) RX9 p s m args meth c G DA) {h0 : Nat} {a0 : Nat → Nat} {wk : Option Nat} {a1 : Nat → Nat} {a2 : Nat → Nat} {a3 : Nat → Nat} {g4 : Nat → Nat} {aB4 : Nat → Nat → Nat} {a5 : Nat → Nat} {a6 : Nat → Nat} {f0 : Nat → Int32} {A0 : Nat → Nat → Int32} {f1 : Nat → Int32} {A1 : Nat → Nat → Int32} {f2 : Nat → Int32} {A2 : Nat → Nat → Int32} {fB4 : Nat → Nat → Int32} {AB4 : Nat → Nat → Nat → Int32} {p1 : Int32} {p2 : Int32}   {res : Int32 × (Nat → Nat → Int32) × (Nat → Int32) × (Nat → Nat → Int32) × (Nat → Int32) × (Nat → Nat → Int32) × (Nat → Int32)}  : ∀ (n : Nat) (A3 : Nat → Nat → Int32) (f3 : Nat → Int32) (A5 : Nat → Nat → Int32) (f5 : Nat → Int32) (A6 : Nat → Nat → Int32) (f6 : Nat → Int32) (l3 : Int32) (l4 : Int32) (l5 : Int32), f9_tried_l36 f0 A0 f1 A1 f2 A2 fB4 AB4 p1 p2  n A3 f3 A5 f5 A6 f6 l3 l4 l5 = some res → ∀ (H : Heap) (locs : List Loc) (ls : Array Slot), WD G DA (wX9 G h0 a0 wk f0 A0 ++ (wX1 G (a0 1) a1 f1 A1 ++ (wX6 G (a0 2) a2 f2 A2 ++ (wX6 G (a0 3) a3 f3 A3 ++ (wB G (a0 5) g4 aB4 fB4 AB4 ++ (wX5 G (a0 6) a5 f5 A5 ++ (wX2 G (a0 11) a6 f6 A6))))))) H → va_S DA s.heap H locs → lv_has ls 6 [(0, .ref h0), (1, .int p1), (2, .int p2), (3, .int l3), (4, .int l4), (5, .int l5)] → W p l e rmX9_tried s m args below meth c H locs 0 0 (MQ below (QI G DA res.1 (wX9 G h0 a0 wk f0 A0 ++ (wX1 G (a0 1) a1 f1 A1 ++ (wX6 G (a0 2) a2 f2 A2 ++ (wX6 G (a0 3) a3 res.2.2.1 res.2.1 ++ (wB G (a0 5) g4 aB4 fB4 AB4 ++ (wX5 G (a0 6) a5 res.2.2.2.2.1 res.2.2.2.1 ++ (wX2 G (a0 11) a6 res.2.2.2.2.2.2 res.2.2.2.2.2.1)))))))) args s 0 0 DA) (F0 m 36 ls []) := by
  intro n
  induction n with
  | zero => intro A3 f3 A5 f5 A6 f6 l3 l4 l5 h; cases h
  | succ n ih => intro A3 f3 A5 f5 A6 f6 l3 l4 l5 h; exact ww_f9_tried_b36 C0  ih A3 f3 A5 f5 A6 f6 l3 l4 l5 h
set_option maxRecDepth 100000 in
set_option maxHeartbeats 4000000 in
theorem kt_X9_tried (l : Launch) (G : Gp) (h0 : Nat) (a0 : Nat → Nat) (wk : Option Nat) (a1 : Nat → Nat) (a2 : Nat → Nat) (a3 : Nat → Nat) (g4 : Nat → Nat) (aB4 : Nat → Nat → Nat) (a5 : Nat → Nat) (a6 : Nat → Nat) (f0 : Nat → Int32) (A0 : Nat → Nat → Int32) (f1 : Nat → Int32) (A1 : Nat → Nat → Int32) (f2 : Nat → Int32) (A2 : Nat → Nat → Int32) (f3 : Nat → Int32) (A3 : Nat → Nat → Int32) (fB4 : Nat → Nat → Int32) (AB4 : Nat → Nat → Nat → Int32) (f5 : Nat → Int32) (A5 : Nat → Nat → Int32) (f6 : Nat → Int32) (A6 : Nat → Nat → Int32) (p1 : Int32) (p2 : Int32) : ∀ {r : Int32 × (Nat → Nat → Int32) × (Nat → Int32) × (Nat → Nat → Int32) × (Nat → Int32) × (Nat → Nat → Int32) × (Nat → Int32)}, f9_tried f0 A0 f1 A1 f2 A2 f3 A3 fB4 AB4 f5 A5 f6 A6 p1 p2 = some r → CtrI l yX9_tried cX9_tried 6 (some .int) rmX9_tried G [.ref h0, .int p1, .int p2] (wX9 G h0 a0 wk f0 A0 ++ (wX1 G (a0 1) a1 f1 A1 ++ (wX6 G (a0 2) a2 f2 A2 ++ (wX6 G (a0 3) a3 f3 A3 ++ (wB G (a0 5) g4 aB4 fB4 AB4 ++ (wX5 G (a0 6) a5 f5 A5 ++ (wX2 G (a0 11) a6 f6 A6))))))) r.1 (wX9 G h0 a0 wk f0 A0 ++ (wX1 G (a0 1) a1 f1 A1 ++ (wX6 G (a0 2) a2 f2 A2 ++ (wX6 G (a0 3) a3 r.2.2.1 r.2.1 ++ (wB G (a0 5) g4 aB4 fB4 AB4 ++ (wX5 G (a0 6) a5 r.2.2.2.2.1 r.2.2.2.1 ++ (wX2 G (a0 11) a6 r.2.2.2.2.2.2 r.2.2.2.2.2.1))))))) := by
  intro res h
  refine ctrI_of (cc := cX9_tried) (maxL := 6) (ret := (some .int)) (by decide +kernel) rfl (Nat.le_of_ble_eq_true rfl) (fun p e s m below meth c DA C0 hP hD ls hl => ?_)
  have hPD : WD G DA (wX9 G h0 a0 wk f0 A0 ++ (wX1 G (a0 1) a1 f1 A1 ++ (wX6 G (a0 2) a2 f2 A2 ++ (wX6 G (a0 3) a3 f3 A3 ++ (wB G (a0 5) g4 aB4 fB4 AB4 ++ (wX5 G (a0 6) a5 f5 A5 ++ (wX2 G (a0 11) a6 f6 A6))))))) s.heap := ⟨hP, hD⟩
  have hS : va_S DA s.heap s.heap [] := va_S.rf
  have hl : lv_has ls 6 [(0, .ref h0), (1, .int p1), (2, .int p2)] := hl
  obtain ⟨hx, hb, hml, hown, hts⟩ := C0.1
  have hK := C0.2.2.2.1
  unfold f9_tried at h
  refine lv_iload_n hx hb dX9_tried_0 rfl (lv_at hl 1 rfl) ?_
  obtain ⟨q_1, hq_1, h⟩ := ob2 h
  refine kSI (As := [.int p1]) (rest := []) C0 (kt_X9_isHours l G  p1 hq_1) gi_S_X9_165_X9_isHours (n := 1) rfl (by decide +kernel) ⟨rfl, rfl, Nat.le_of_ble_eq_true rfl, Nat.le_of_ble_eq_true rfl⟩ hPD hS [] [0, 1, 2, 3, 4, 5, 6, 7, 8, 9, 10, 11, 12, 13, 14, 15, 16, 17, 18, 19, 20, 21, 22, 23, 24, 25, 26, 27, 28, 29, 30, 31, 32, 33, 34, 35, 36, 37, 38, 39, 40, 41, 42, 43, 44, 45] [0, 1, 2, 3, 4, 5, 6, 7, 8, 9, 10, 11, 12, 13, 14, 15, 16, 17, 18, 19, 20, 21, 22, 23, 24, 25, 26, 27, 28, 29, 30, 31, 32, 33, 34, 35, 36, 37, 38, 39, 40, 41, 42, 43, 44, 45] (wN := (wX9 G h0 a0 wk f0 A0 ++ (wX1 G (a0 1) a1 f1 A1 ++ (wX6 G (a0 2) a2 f2 A2 ++ (wX6 G (a0 3) a3 f3 A3 ++ (wB G (a0 5) g4 aB4 fB4 AB4 ++ (wX5 G (a0 6) a5 f5 A5 ++ (wX2 G (a0 11) a6 f6 A6)))))))) rfl rfl rfl rfl rfl hl.1 (Nat.le_of_ble_eq_true rfl) dX9_tried_1 (fun H locs hPD hS => ?_)
  refine lv_if_eq (tgt := 15) hx hb dX9_tried_4 (by decide) (fun cc1 => ?_) (fun cc1 => ?_)
  · have h := (if_pos cc1).symm.trans h
    refine lv_iconst (v := (-1)) hx hb dX9_tried_15 (by decide) ?_
    obtain rfl := Option.some.inj h
    exact eI C0 hPD.1 hPD.2 hS rfl dX9_tried_16
  · have h := (if_neg cc1).symm.trans h
    refine lv_aload_n hx hb dX9_tried_7 rfl (lv_at hl 0 rfl) ?_
    refine lv_iload_n hx hb dX9_tried_8 rfl (lv_at hl 2 rfl) ?_
    obtain ⟨q_2, hq_2, h⟩ := ob2 h
    refine kVI (As := [.int p2]) (rest := []) C0 (kt_X9_canBeTried l G h0 a0 wk a1 a2 f0 A0 f1 A1 f2 A2 p2 hq_2) gi_V_X9_175_X9_canBeTried (n := 1) rfl (by decide +kernel) rfl ⟨rfl, rfl, Nat.le_of_ble_eq_true rfl, Nat.le_of_ble_eq_true rfl⟩ hPD hS 0 9 rfl rfl rfl [0, 1, 2, 3, 4, 5, 6, 7, 8, 9, 10, 11] [12, 13, 14, 15, 16, 17, 18, 19, 20, 21, 22, 23, 24, 25, 26, 27, 28, 29, 30, 31, 32, 33, 34, 35, 36, 37, 38, 39, 40, 41, 42, 43, 44, 45] [34, 35, 36, 37, 38, 39, 40, 41, 42, 43, 44, 45, 0, 1, 2, 3, 4, 5, 6, 7, 8, 9, 10, 11, 12, 13, 14, 15, 16, 17, 18, 19, 20, 21, 22, 23, 24, 25, 26, 27, 28, 29, 30, 31, 32, 33] (wN := (wX9 G h0 a0 wk f0 A0 ++ (wX1 G (a0 1) a1 f1 A1 ++ (wX6 G (a0 2) a2 f2 A2 ++ (wX6 G (a0 3) a3 f3 A3 ++ (wB G (a0 5) g4 aB4 fB4 AB4 ++ (wX5 G (a0 6) a5 f5 A5 ++ (wX2 G (a0 11) a6 f6 A6)))))))) rfl rfl rfl rfl rfl hl.1 (Nat.le_of_ble_eq_true rfl) dX9_tried_9 (fun H locs hPD hS => ?_)
    refine lv_if_ne (tgt := 17) hx hb dX9_tried_12 (by decide) (fun cc1 => ?_) (fun cc1 => ?_)
    · have h := (if_neg cc1).symm.trans h
      refine lv_iconst (v := 0) hx hb dX9_tried_17 (by decide) ?_
      refine lv_istore_n (lv' := [(3, .int 0), (0, .ref h0), (1, .int p1), (2, .int p2)]) hx hb dX9_tried_18 rfl hl (by decide) rfl (fun ls hl => ?_)
      refine lv_iconst (v := 0) hx hb dX9_tried_19 (by decide) ?_
      refine lv_istore (lv' := [(4, .int 0), (3, .int 0), (0, .ref h0), (1, .int p1), (2, .int p2)]) hx hb dX9_tried_20 hl (by decide) rfl (fun ls hl => ?_)
      refine lv_aload_n hx hb dX9_tried_22 rfl (lv_at hl 2 rfl) ?_
      refine va_get (D := G.1) (ci := 9) (v := .ref (a0 3)) (C := RX9) (T := TX9) (N := 15) hx hb hts inlX9 hown hK hPD.1 0 rfl rfl 3 (by decide) (hts _ gw_427) (fun _ h9 => h9) rfl dX9_tried_23 ?_
      refine lv_aload_n hx hb dX9_tried_26 rfl (lv_at hl 2 rfl) ?_
      refine va_get (D := G.1) (ci := 9) (v := .ref (a0 2)) (C := RX9) (T := TX9) (N := 15) hx hb hts inlX9 hown hK hPD.1 0 rfl rfl 2 (by decide) (hts _ gw_356) (fun _ h9 => h9) rfl dX9_tried_27 ?_
      obtain ⟨q_3, hq_3, h⟩ := ob2 h
      refine kVV (As := [.ref (a0 2)]) (rest := []) C0 (kt_X6_copy l G (a0 3) a3 (a0 2) a2 f3 A3 f2 A2 hq_3) gi_V_X9_178_X6_copy (n := 1) rfl (by decide +kernel) rfl ⟨rfl, rfl, Nat.le_of_ble_eq_true rfl, Nat.le_of_ble_eq_true rfl⟩ hPD hS 12 6 rfl rfl rfl [12, 13, 14, 15, 16, 17, 6, 7, 8, 9, 10, 11] [0, 1, 2, 3, 4, 5, 18, 19, 20, 21, 22, 23, 24, 25, 26, 27, 28, 29, 30, 31, 32, 33, 34, 35, 36, 37, 38, 39, 40, 41, 42, 43, 44, 45] [0, 1, 2, 3, 4, 5, 40, 41, 42, 43, 44, 45, 34, 35, 36, 37, 38, 39, 6, 7, 8, 9, 10, 11, 12, 13, 14, 15, 16, 17, 18, 19, 20, 21, 22, 23, 24, 25, 26, 27, 28, 29, 30, 31, 32, 33] (wN := (wX9 G h0 a0 wk f0 A0 ++ (wX1 G (a0 1) a1 f1 A1 ++ (wX6 G (a0 2) a2 f2 A2 ++ (wX6 G (a0 3) a3 q_3.2 q_3.1 ++ (wB G (a0 5) g4 aB4 fB4 AB4 ++ (wX5 G (a0 6) a5 f5 A5 ++ (wX2 G (a0 11) a6 f6 A6)))))))) rfl rfl rfl rfl rfl hl.1 (Nat.le_of_ble_eq_true rfl) dX9_tried_30 (fun H locs hPD hS => ?_)
      refine lv_iconst (v := 0) hx hb dX9_tried_33 (by decide) ?_
      refine lv_istore (lv' := [(5, .int 0), (4, .int 0), (3, .int 0), (0, .ref h0), (1, .int p1), (2, .int p2)]) hx hb dX9_tried_34 hl (by decide) rfl (fun ls hl => ?_)
      exact ww_f9_tried_l36 C0 NF q_3.1 q_3.2 A5 f5 A6 f6 0 0 0 h _ _ _ hPD hS (lv_sub hl [3, 4, 5, 2, 1, 0] rfl)
    · have h := (if_pos cc1).symm.trans h
      refine lv_iconst (v := (-1)) hx hb dX9_tried_15 (by decide) ?_
      obtain rfl := Option.some.inj h
      exact eI C0 hPD.1 hPD.2 hS rfl dX9_tried_16
abbrev rmX9_alone : Room := { frames := 7, cells := 0, slots := 0, locals := 159 }
set_option maxRecDepth 100000 in
set_option maxHeartbeats 4000000 in
theorem ww_f9_alone_b75  (C0 : Cx cX9_alone 6 (some .int) RX9 p s m args meth c G DA) {h0 : Nat} {a0 : Nat → Nat} {wk : Option Nat} {a1 : Nat → Nat} {a2 : Nat → Nat} {a3 : Nat → Nat} {g4 : Nat → Nat} {aB4 : Nat → Nat → Nat} {a5 : Nat → Nat} {a6 : Nat → Nat} {f0 : Nat → Int32} {A0 : Nat → Nat → Int32} {f1 : Nat → Int32} {A1 : Nat → Nat → Int32} {f2 : Nat → Int32} {A2 : Nat → Nat → Int32} {fB4 : Nat → Nat → Int32} {AB4 : Nat → Nat → Nat → Int32} {p1 : Int32} {p2 : Int32}  {k39 : (Nat → Nat → Int32) → (Nat → Int32) → (Nat → Nat → Int32) → (Nat → Int32) → (Nat → Nat → Int32) → (Nat → Int32) → Int32 → Int32 → Int32 → Option (Int32 × (Nat → Nat → Int32) × (Nat → Int32) × (Nat → Nat → Int32) × (Nat → Int32) × (Nat → Nat → Int32) × (Nat → Int32))} {res : Int32 × (Nat → Nat → Int32) × (Nat → Int32) × (Nat → Nat → Int32) × (Nat → Int32) × (Nat → Nat → Int32) × (Nat → Int32)} (hk39 : ∀ (A3 : Nat → Nat → Int32) (f3 : Nat → Int32) (A5 : Nat → Nat → Int32) (f5 : Nat → Int32) (A6 : Nat → Nat → Int32) (f6 : Nat → Int32) (l3 : Int32) (l4 : Int32) (l5 : Int32), k39 A3 f3 A5 f5 A6 f6 l3 l4 l5 = some res → ∀ (H : Heap) (locs : List Loc) (ls : Array Slot), WD G DA (wX9 G h0 a0 wk f0 A0 ++ (wX1 G (a0 1) a1 f1 A1 ++ (wX6 G (a0 2) a2 f2 A2 ++ (wX6 G (a0 3) a3 f3 A3 ++ (wB G (a0 5) g4 aB4 fB4 AB4 ++ (wX5 G (a0 6) a5 f5 A5 ++ (wX2 G (a0 11) a6 f6 A6))))))) H → va_S DA s.heap H locs → lv_has ls 6 [(0, .ref h0), (1, .int p1), (2, .int p2), (3, .int l3), (4, .int l4), (5, .int l5)] → W p l e rmX9_alone s m args below meth c H locs 0 0 (MQ below (QI G DA res.1 (wX9 G h0 a0 wk f0 A0 ++ (wX1 G (a0 1) a1 f1 A1 ++ (wX6 G (a0 2) a2 f2 A2 ++ (wX6 G (a0 3) a3 res.2.2.1 res.2.1 ++ (wB G (a0 5) g4 aB4 fB4 AB4 ++ (wX5 G (a0 6) a5 res.2.2.2.2.1 res.2.2.2.1 ++ (wX2 G (a0 11) a6 res.2.2.2.2.2.2 res.2.2.2.2.2.1)))))))) args s 0 0 DA) (F0 m 39 ls [])) : ∀ (A3 : Nat → Nat → Int32) (f3 : Nat → Int32) (A5 : Nat → Nat → Int32) (f5 : Nat → Int32) (A6 : Nat → Nat → Int32) (f6 : Nat → Int32) (l3 : Int32) (l5 : Int32) (s0 : Int32), f9_alone_b75 f0 A0 f1 A1 f2 A2 fB4 AB4 p1 p2 k39 A3 f3 A5 f5 A6 f6 l3 l5 s0 = some res → ∀ (H : Heap) (locs : List Loc) (ls : Array Slot), WD G DA (wX9 G h0 a0 wk f0 A0 ++ (wX1 G (a0 1) a1 f1 A1 ++ (wX6 G (a0 2) a2 f2 A2 ++ (wX6 G (a0 3) a3 f3 A3 ++ (wB G (a0 5) g4 aB4 fB4 AB4 ++ (wX5 G (a0 6) a5 f5 A5 ++ (wX2 G (a0 11) a6 f6 A6))))))) H → va_S DA s.heap H locs → lv_has ls 6 [(0, .ref h0), (1, .int p1), (2, .int p2), (3, .int l3), (5, .int l5)] → W p l e rmX9_alone s m args below meth c H locs 0 0 (MQ below (QI G DA res.1 (wX9 G h0 a0 wk f0 A0 ++ (wX1 G (a0 1) a1 f1 A1 ++ (wX6 G (a0 2) a2 f2 A2 ++ (wX6 G (a0 3) a3 res.2.2.1 res.2.1 ++ (wB G (a0 5) g4 aB4 fB4 AB4 ++ (wX5 G (a0 6) a5 res.2.2.2.2.1 res.2.2.2.1 ++ (wX2 G (a0 11) a6 res.2.2.2.2.2.2 res.2.2.2.2.2.1)))))))) args s 0 0 DA) (F0 m 75 ls [.int s0]) := by
  obtain ⟨hx, hb, hml, hown, hts⟩ := C0.1
  have hK := C0.2.2.2.1
  intro A3 f3 A5 f5 A6 f6 l3 l5 s0 h _ _ _ hPD hS hl
  unfold f9_alone_b75 at h
  refine lv_istore (lv' := [(4, .int s0), (0, .ref h0), (1, .int p1), (2, .int p2), (3, .int l3), (5, .int l5)]) hx hb dX9_alone_75 hl (by decide) rfl (fun ls hl => ?_)
  refine lv_iload_n hx hb dX9_alone_77 rfl (lv_at hl 4 rfl) ?_
  refine lv_iload hx hb dX9_alone_78 (lv_at hl 0 rfl) ?_
  refine va_mmax hx hb (hml.trans hl.1.symm) hown (hts _ gw_211) (hts _ gw_212) (hts _ gw_209) (hts _ gw_213) (Nat.le_of_ble_eq_true rfl) (Nat.le_of_ble_eq_true rfl) (Nat.zero_le _) (Nat.zero_le _) dX9_alone_80 ?_
  refine lv_istore_n (lv' := [(3, .int (imax l3 s0)), (4, .int s0), (0, .ref h0), (1, .int p1), (2, .int p2), (5, .int l5)]) hx hb dX9_alone_83 rfl hl (by decide) rfl (fun ls hl => ?_)
  refine lv_iinc (v := l5 + 1) (lv' := [(5, .int (l5 + 1)), (3, .int (imax l3 s0)), (4, .int s0), (0, .ref h0), (1, .int p1), (2, .int p2)]) hx hb dX9_alone_84 hl (k := 5) rfl rfl (by decide) rfl (fun ls hl => ?_)
  refine lv_goto (tgt := 39) hx hb dX9_alone_87 (by decide) ?_
  exact hk39 A3 f3 A5 f5 A6 f6 (imax l3 s0) s0 (l5 + 1) h _ _ _ hPD hS (lv_sub hl [3, 4, 5, 1, 2, 0] rfl)
set_option maxRecDepth 100000 in
set_option maxHeartbeats 4000000 in
theorem ww_f9_alone_b39  (C0 : Cx cX9_alone 6 (some .int) RX9 p s m args meth c G DA) {h0 : Nat} {a0 : Nat → Nat} {wk : Option Nat} {a1 : Nat → Nat} {a2 : Nat → Nat} {a3 : Nat → Nat} {g4 : Nat → Nat} {aB4 : Nat → Nat → Nat} {a5 : Nat → Nat} {a6 : Nat → Nat} {f0 : Nat → Int32} {A0 : Nat → Nat → Int32} {f1 : Nat → Int32} {A1 : Nat → Nat → Int32} {f2 : Nat → Int32} {A2 : Nat → Nat → Int32} {fB4 : Nat → Nat → Int32} {AB4 : Nat → Nat → Nat → Int32} {p1 : Int32} {p2 : Int32}  {k39 : (Nat → Nat → Int32) → (Nat → Int32) → (Nat → Nat → Int32) → (Nat → Int32) → (Nat → Nat → Int32) → (Nat → Int32) → Int32 → Int32 → Int32 → Option (Int32 × (Nat → Nat → Int32) × (Nat → Int32) × (Nat → Nat → Int32) × (Nat → Int32) × (Nat → Nat → Int32) × (Nat → Int32))} {res : Int32 × (Nat → Nat → Int32) × (Nat → Int32) × (Nat → Nat → Int32) × (Nat → Int32) × (Nat → Nat → Int32) × (Nat → Int32)}  (hk39 : ∀ (A3 : Nat → Nat → Int32) (f3 : Nat → Int32) (A5 : Nat → Nat → Int32) (f5 : Nat → Int32) (A6 : Nat → Nat → Int32) (f6 : Nat → Int32) (l3 : Int32) (l4 : Int32) (l5 : Int32), k39 A3 f3 A5 f5 A6 f6 l3 l4 l5 = some res → ∀ (H : Heap) (locs : List Loc) (ls : Array Slot), WD G DA (wX9 G h0 a0 wk f0 A0 ++ (wX1 G (a0 1) a1 f1 A1 ++ (wX6 G (a0 2) a2 f2 A2 ++ (wX6 G (a0 3) a3 f3 A3 ++ (wB G (a0 5) g4 aB4 fB4 AB4 ++ (wX5 G (a0 6) a5 f5 A5 ++ (wX2 G (a0 11) a6 f6 A6))))))) H → va_S DA s.heap H locs → lv_has ls 6 [(0, .ref h0), (1, .int p1), (2, .int p2), (3, .int l3), (4, .int l4), (5, .int l5)] → W p l e rmX9_alone s m args below meth c H locs 0 0 (MQ below (QI G DA res.1 (wX9 G h0 a0 wk f0 A0 ++ (wX1 G (a0 1) a1 f1 A1 ++ (wX6 G (a0 2) a2 f2 A2 ++ (wX6 G (a0 3) a3 res.2.2.1 res.2.1 ++ (wB G (a0 5) g4 aB4 fB4 AB4 ++ (wX5 G (a0 6) a5 res.2.2.2.2.1 res.2.2.2.1 ++ (wX2 G (a0 11) a6 res.2.2.2.2.2.2 res.2.2.2.2.2.1)))))))) args s 0 0 DA) (F0 m 39 ls [])) : ∀ (A3 : Nat → Nat → Int32) (f3 : Nat → Int32) (A5 : Nat → Nat → Int32) (f5 : Nat → Int32) (A6 : Nat → Nat → Int32) (f6 : Nat → Int32) (l3 : Int32) (l4 : Int32) (l5 : Int32), f9_alone_b39 f0 A0 f1 A1 f2 A2 fB4 AB4 p1 p2  k39 A3 f3 A5 f5 A6 f6 l3 l4 l5 = some res → ∀ (H : Heap) (locs : List Loc) (ls : Array Slot), WD G DA (wX9 G h0 a0 wk f0 A0 ++ (wX1 G (a0 1) a1 f1 A1 ++ (wX6 G (a0 2) a2 f2 A2 ++ (wX6 G (a0 3) a3 f3 A3 ++ (wB G (a0 5) g4 aB4 fB4 AB4 ++ (wX5 G (a0 6) a5 f5 A5 ++ (wX2 G (a0 11) a6 f6 A6))))))) H → va_S DA s.heap H locs → lv_has ls 6 [(0, .ref h0), (1, .int p1), (2, .int p2), (3, .int l3), (4, .int l4), (5, .int l5)] → W p l e rmX9_alone s m args below meth c H locs 0 0 (MQ below (QI G DA res.1 (wX9 G h0 a0 wk f0 A0 ++ (wX1 G (a0 1) a1 f1 A1 ++ (wX6 G (a0 2) a2 f2 A2 ++ (wX6 G (a0 3) a3 res.2.2.1 res.2.1 ++ (wB G (a0 5) g4 aB4 fB4 AB4 ++ (wX5 G (a0 6) a5 res.2.2.2.2.1 res.2.2.2.1 ++ (wX2 G (a0 11) a6 res.2.2.2.2.2.2 res.2.2.2.2.2.1)))))))) args s 0 0 DA) (F0 m 39 ls []) := by
  obtain ⟨hx, hb, hml, hown, hts⟩ := C0.1
  have hK := C0.2.2.2.1
  intro A3 f3 A5 f5 A6 f6 l3 l4 l5 h _ _ _ hPD hS hl
  unfold f9_alone_b39 at h
  refine lv_iload hx hb dX9_alone_39 (lv_at hl 5 rfl) ?_
  refine lv_iload_n hx hb dX9_alone_41 rfl (lv_at hl 2 rfl) ?_
  refine lv_icmp_ge (tgt := 90) hx hb dX9_alone_42 (by decide) (fun cc1 => ?_) (fun cc1 => ?_)
  · have h := (if_pos cc1).symm.trans h
    refine lv_iload_n hx hb dX9_alone_90 rfl (lv_at hl 3 rfl) ?_
    obtain rfl := Option.some.inj h
    exact eI C0 hPD.1 hPD.2 hS rfl dX9_alone_91
  · have h := (if_neg cc1).symm.trans h
    refine lv_aload_n hx hb dX9_alone_45 rfl (lv_at hl 0 rfl) ?_
    refine lv_aload_n hx hb dX9_alone_46 rfl (lv_at hl 0 rfl) ?_
    refine va_get (D := G.1) (ci := 9) (v := .ref (a0 3)) (C := RX9) (T := TX9) (N := 15) hx hb hts inlX9 hown hK hPD.1 0 rfl rfl 3 (by decide) (hts _ gw_427) (fun _ h9 => h9) rfl dX9_alone_47 ?_
    obtain ⟨q_3, hq_3, h⟩ := ob2 h
    refine kVI (As := [.ref (a0 3)]) (rest := []) C0 (kt_X9_passes l G h0 a0 wk a1 g4 aB4 a5 a6 (a0 3) a3 f0 A0 f1 A1 fB4 AB4 f5 A5 f6 A6 f3 A3 hq_3) gi_V_X9_168_X9_passes (n := 1) rfl (by decide +kernel) rfl ⟨rfl, rfl, Nat.le_of_ble_eq_true rfl, Nat.le_of_ble_eq_true rfl⟩ hPD hS 0 9 rfl rfl rfl [0, 1, 2, 3, 4, 5, 18, 19, 20, 21, 22, 23, 24, 25, 26, 27, 28, 29, 30, 31, 32, 33, 34, 35, 36, 37, 38, 39, 40, 41, 42, 43, 44, 45, 12, 13, 14, 15, 16, 17] [6, 7, 8, 9, 10, 11] [6, 7, 8, 9, 10, 11, 0, 1, 2, 3, 4, 5, 40, 41, 42, 43, 44, 45, 12, 13, 14, 15, 16, 17, 18, 19, 20, 21, 22, 23, 24, 25, 26, 27, 28, 29, 30, 31, 32, 33, 34, 35, 36, 37, 38, 39] (wN := (wX9 G h0 a0 wk f0 A0 ++ (wX1 G (a0 1) a1 f1 A1 ++ (wX6 G (a0 2) a2 f2 A2 ++ (wX6 G (a0 3) a3 q_3.2.2.2.2.2.2 q_3.2.2.2.2.2.1 ++ (wB G (a0 5) g4 aB4 fB4 AB4 ++ (wX5 G (a0 6) a5 q_3.2.2.1 q_3.2.1 ++ (wX2 G (a0 11) a6 q_3.2.2.2.2.1 q_3.2.2.2.1)))))))) rfl rfl rfl rfl rfl hl.1 (Nat.le_of_ble_eq_true rfl) dX9_alone_50 (fun H locs hPD hS => ?_)
    refine lv_if_eq (tgt := 90) hx hb dX9_alone_53 (by decide) (fun cc1 => ?_) (fun cc1 => ?_)
    · have h := (if_pos cc1).symm.trans h
      refine lv_iload_n hx hb dX9_alone_90 rfl (lv_at hl 3 rfl) ?_
      obtain rfl := Option.some.inj h
      exact eI C0 hPD.1 hPD.2 hS rfl dX9_alone_91
    · have h := (if_neg cc1).symm.trans h
      refine lv_aload_n hx hb dX9_alone_56 rfl (lv_at hl 0 rfl) ?_
      refine va_get (D := G.1) (ci := 9) (v := .ref (a0 3)) (C := RX9) (T := TX9) (N := 15) hx hb hts inlX9 hown hK hPD.1 0 rfl rfl 3 (by decide) (hts _ gw_427) (fun _ h9 => h9) rfl dX9_alone_57 ?_
      refine lv_iload_n hx hb dX9_alone_60 rfl (lv_at hl 1 rfl) ?_
      obtain ⟨q_4, hq_4, h⟩ := ob2 h
      refine kVI (As := [.int p1]) (rest := []) C0 (kt_X6_standAt l G (a0 3) a3 q_3.2.2.2.2.2.2 q_3.2.2.2.2.2.1 p1 hq_4) gi_V_X9_196_X6_standAt (n := 1) rfl (by decide +kernel) rfl ⟨rfl, rfl, Nat.le_of_ble_eq_true rfl, Nat.le_of_ble_eq_true rfl⟩ hPD hS 12 6 rfl rfl rfl [12, 13, 14, 15, 16, 17] [0, 1, 2, 3, 4, 5, 6, 7, 8, 9, 10, 11, 18, 19, 20, 21, 22, 23, 24, 25, 26, 27, 28, 29, 30, 31, 32, 33, 34, 35, 36, 37, 38, 39, 40, 41, 42, 43, 44, 45] [0, 1, 2, 3, 4, 5, 6, 7, 8, 9, 10, 11, 40, 41, 42, 43, 44, 45, 12, 13, 14, 15, 16, 17, 18, 19, 20, 21, 22, 23, 24, 25, 26, 27, 28, 29, 30, 31, 32, 33, 34, 35, 36, 37, 38, 39] (wN := (wX9 G h0 a0 wk f0 A0 ++ (wX1 G (a0 1) a1 f1 A1 ++ (wX6 G (a0 2) a2 f2 A2 ++ (wX6 G (a0 3) a3 q_3.2.2.2.2.2.2 q_3.2.2.2.2.2.1 ++ (wB G (a0 5) g4 aB4 fB4 AB4 ++ (wX5 G (a0 6) a5 q_3.2.2.1 q_3.2.1 ++ (wX2 G (a0 11) a6 q_3.2.2.2.2.1 q_3.2.2.2.1)))))))) rfl rfl rfl rfl rfl hl.1 (Nat.le_of_ble_eq_true rfl) dX9_alone_61 (fun H locs hPD hS => ?_)
      refine lv_if_ne (tgt := 74) hx hb dX9_alone_64 (by decide) (fun cc1 => ?_) (fun cc1 => ?_)
      · have h := (if_neg cc1).symm.trans h
        refine lv_iconst (v := 0) hx hb dX9_alone_74 (by decide) ?_
        exact ww_f9_alone_b75 C0 hk39 q_3.2.2.2.2.2.1 q_3.2.2.2.2.2.2 q_3.2.1 q_3.2.2.1 q_3.2.2.2.1 q_3.2.2.2.2.1 l3 l5 0 h _ _ _ hPD hS (lv_sub hl [0, 1, 2, 3, 5] rfl)
      · have h := (if_pos cc1).symm.trans h
        refine lv_iload hx hb dX9_alone_67 (lv_at hl 4 rfl) ?_
        refine lv_iconst (v := 1) hx hb dX9_alone_69 (by decide) ?_
        refine lv_iadd hx hb dX9_alone_70 ?_
        refine lv_goto (tgt := 75) hx hb dX9_alone_71 (by decide) ?_
        exact ww_f9_alone_b75 C0 hk39 q_3.2.2.2.2.2.1 q_3.2.2.2.2.2.2 q_3.2.1 q_3.2.2.1 q_3.2.2.2.1 q_3.2.2.2.2.1 l3 l5 (l4 + 1) h _ _ _ hPD hS (lv_sub hl [0, 1, 2, 3, 5] rfl)
set_option maxRecDepth 100000 in
set_option maxHeartbeats 4000000 in
theorem ww_f9_alone_l39  (C0 : Cx cX9_alone 6 (some .int) RX9 p s m args meth c G DA) {h0 : Nat} {a0 : Nat → Nat} {wk : Option Nat} {a1 : Nat → Nat} {a2 : Nat → Nat} {a3 : Nat → Nat} {g4 : Nat → Nat} {aB4 : Nat → Nat → Nat} {a5 : Nat → Nat} {a6 : Nat → Nat} {f0 : Nat → Int32} {A0 : Nat → Nat → Int32} {f1 : Nat → Int32} {A1 : Nat → Nat → Int32} {f2 : Nat → Int32} {A2 : Nat → Nat → Int32} {fB4 : Nat → Nat → Int32} {AB4 : Nat → Nat → Nat → Int32} {p1 : Int32} {p2 : Int32}   {res : Int32 × (Nat → Nat → Int32) × (Nat → Int32) × (Nat → Nat → Int32) × (Nat → Int32) × (Nat → Nat → Int32) × (Nat → Int32)}  : ∀ (n : Nat) (A3 : Nat → Nat → Int32) (f3 : Nat → Int32) (A5 : Nat → Nat → Int32) (f5 : Nat → Int32) (A6 : Nat → Nat → Int32) (f6 : Nat → Int32) (l3 : Int32) (l4 : Int32) (l5 : Int32), f9_alone_l39 f0 A0 f1 A1 f2 A2 fB4 AB4 p1 p2  n A3 f3 A5 f5 A6 f6 l3 l4 l5 = some res → ∀ (H : Heap) (locs : List Loc) (ls : Array Slot), WD G DA (wX9 G h0 a0 wk f0 A0 ++ (wX1 G (a0 1) a1 f1 A1 ++ (wX6 G (a0 2) a2 f2 A2 ++ (wX6 G (a0 3) a3 f3 A3 ++ (wB G (a0 5) g4 aB4 fB4 AB4 ++ (wX5 G (a0 6) a5 f5 A5 ++ (wX2 G (a0 11) a6 f6 A6))))))) H → va_S DA s.heap H locs → lv_has ls 6 [(0, .ref h0), (1, .int p1), (2, .int p2), (3, .int l3), (4, .int l4), (5, .int l5)] → W p l e rmX9_alone s m args below meth c H locs 0 0 (MQ below (QI G DA res.1 (wX9 G h0 a0 wk f0 A0 ++ (wX1 G (a0 1) a1 f1 A1 ++ (wX6 G (a0 2) a2 f2 A2 ++ (wX6 G (a0 3) a3 res.2.2.1 res.2.1 ++ (wB G (a0 5) g4 aB4 fB4 AB4 ++ (wX5 G (a0 6) a5 res.2.2.2.2.1 res.2.2.2.1 ++ (wX2 G (a0 11) a6 res.2.2.2.2.2.2 res.2.2.2.2.2.1)))))))) args s 0 0 DA) (F0 m 39 ls []) := by
  intro n
  induction n with
  | zero => intro A3 f3 A5 f5 A6 f6 l3 l4 l5 h; cases h
  | succ n ih => intro A3 f3 A5 f5 A6 f6 l3 l4 l5 h; exact ww_f9_alone_b39 C0  ih A3 f3 A5 f5 A6 f6 l3 l4 l5 h
set_option maxRecDepth 100000 in
set_option maxHeartbeats 4000000 in
theorem kt_X9_alone (l : Launch) (G : Gp) (h0 : Nat) (a0 : Nat → Nat) (wk : Option Nat) (a1 : Nat → Nat) (a2 : Nat → Nat) (a3 : Nat → Nat) (g4 : Nat → Nat) (aB4 : Nat → Nat → Nat) (a5 : Nat → Nat) (a6 : Nat → Nat) (f0 : Nat → Int32) (A0 : Nat → Nat → Int32) (f1 : Nat → Int32) (A1 : Nat → Nat → Int32) (f2 : Nat → Int32) (A2 : Nat → Nat → Int32) (f3 : Nat → Int32) (A3 : Nat → Nat → Int32) (fB4 : Nat → Nat → Int32) (AB4 : Nat → Nat → Nat → Int32) (f5 : Nat → Int32) (A5 : Nat → Nat → Int32) (f6 : Nat → Int32) (A6 : Nat → Nat → Int32) (p1 : Int32) (p2 : Int32) : ∀ {r : Int32 × (Nat → Nat → Int32) × (Nat → Int32) × (Nat → Nat → Int32) × (Nat → Int32) × (Nat → Nat → Int32) × (Nat → Int32)}, f9_alone f0 A0 f1 A1 f2 A2 f3 A3 fB4 AB4 f5 A5 f6 A6 p1 p2 = some r → CtrI l yX9_alone cX9_alone 6 (some .int) rmX9_alone G [.ref h0, .int p1, .int p2] (wX9 G h0 a0 wk f0 A0 ++ (wX1 G (a0 1) a1 f1 A1 ++ (wX6 G (a0 2) a2 f2 A2 ++ (wX6 G (a0 3) a3 f3 A3 ++ (wB G (a0 5) g4 aB4 fB4 AB4 ++ (wX5 G (a0 6) a5 f5 A5 ++ (wX2 G (a0 11) a6 f6 A6))))))) r.1 (wX9 G h0 a0 wk f0 A0 ++ (wX1 G (a0 1) a1 f1 A1 ++ (wX6 G (a0 2) a2 f2 A2 ++ (wX6 G (a0 3) a3 r.2.2.1 r.2.1 ++ (wB G (a0 5) g4 aB4 fB4 AB4 ++ (wX5 G (a0 6) a5 r.2.2.2.2.1 r.2.2.2.1 ++ (wX2 G (a0 11) a6 r.2.2.2.2.2.2 r.2.2.2.2.2.1))))))) := by
  intro res h
  refine ctrI_of (cc := cX9_alone) (maxL := 6) (ret := (some .int)) (by decide +kernel) rfl (Nat.le_of_ble_eq_true rfl) (fun p e s m below meth c DA C0 hP hD ls hl => ?_)
  have hPD : WD G DA (wX9 G h0 a0 wk f0 A0 ++ (wX1 G (a0 1) a1 f1 A1 ++ (wX6 G (a0 2) a2 f2 A2 ++ (wX6 G (a0 3) a3 f3 A3 ++ (wB G (a0 5) g4 aB4 fB4 AB4 ++ (wX5 G (a0 6) a5 f5 A5 ++ (wX2 G (a0 11) a6 f6 A6))))))) s.heap := ⟨hP, hD⟩
  have hS : va_S DA s.heap s.heap [] := va_S.rf
  have hl : lv_has ls 6 [(0, .ref h0), (1, .int p1), (2, .int p2)] := hl
  obtain ⟨hx, hb, hml, hown, hts⟩ := C0.1
  have hK := C0.2.2.2.1
  unfold f9_alone at h
  refine lv_aload_n hx hb dX9_alone_0 rfl (lv_at hl 0 rfl) ?_
  refine va_get (D := G.1) (ci := 9) (v := .ref (a0 1)) (C := RX9) (T := TX9) (N := 15) hx hb hts inlX9 hown hK hPD.1 0 rfl rfl 1 (by decide) (hts _ gw_354) (fun _ h9 => h9) rfl dX9_alone_1 ?_
  refine lv_iload_n hx hb dX9_alone_4 rfl (lv_at hl 1 rfl) ?_
  refine kVI (As := [.int p1]) (rest := []) C0 (kt_X1_isTold l G (a0 1) a1 f1 A1 p1) gi_V_X9_108_X1_isTold (n := 1) rfl (by decide +kernel) rfl ⟨rfl, rfl, Nat.le_of_ble_eq_true rfl, Nat.le_of_ble_eq_true rfl⟩ hPD hS 2 1 rfl rfl rfl [2, 3, 4, 5] [0, 1, 6, 7, 8, 9, 10, 11, 12, 13, 14, 15, 16, 17, 18, 19, 20, 21, 22, 23, 24, 25, 26, 27, 28, 29, 30, 31, 32, 33, 34, 35, 36, 37, 38, 39, 40, 41, 42, 43, 44, 45] [0, 1, 42, 43, 44, 45, 2, 3, 4, 5, 6, 7, 8, 9, 10, 11, 12, 13, 14, 15, 16, 17, 18, 19, 20, 21, 22, 23, 24, 25, 26, 27, 28, 29, 30, 31, 32, 33, 34, 35, 36, 37, 38, 39, 40, 41] (wN := (wX9 G h0 a0 wk f0 A0 ++ (wX1 G (a0 1) a1 f1 A1 ++ (wX6 G (a0 2) a2 f2 A2 ++ (wX6 G (a0 3) a3 f3 A3 ++ (wB G (a0 5) g4 aB4 fB4 AB4 ++ (wX5 G (a0 6) a5 f5 A5 ++ (wX2 G (a0 11) a6 f6 A6)))))))) rfl rfl rfl rfl rfl hl.1 (Nat.le_of_ble_eq_true rfl) dX9_alone_5 (fun H locs hPD hS => ?_)
  refine lv_if_eq (tgt := 18) hx hb dX9_alone_8 (by decide) (fun cc1 => ?_) (fun cc1 => ?_)
  · have h := (if_pos cc1).symm.trans h
    refine lv_iconst (v := (-1)) hx hb dX9_alone_18 (by decide) ?_
    obtain rfl := Option.some.inj h
    exact eI C0 hPD.1 hPD.2 hS rfl dX9_alone_19
  · have h := (if_neg cc1).symm.trans h
    refine lv_iload_n hx hb dX9_alone_11 rfl (lv_at hl 2 rfl) ?_
    obtain ⟨q_1, hq_1, h⟩ := ob2 h
    refine kSI (As := [.int p2]) (rest := []) C0 (kt_X9_isHours l G  p2 hq_1) gi_S_X9_165_X9_isHours (n := 1) rfl (by decide +kernel) ⟨rfl, rfl, Nat.le_of_ble_eq_true rfl, Nat.le_of_ble_eq_true rfl⟩ hPD hS [] [0, 1, 2, 3, 4, 5, 6, 7, 8, 9, 10, 11, 12, 13, 14, 15, 16, 17, 18, 19, 20, 21, 22, 23, 24, 25, 26, 27, 28, 29, 30, 31, 32, 33, 34, 35, 36, 37, 38, 39, 40, 41, 42, 43, 44, 45] [0, 1, 2, 3, 4, 5, 6, 7, 8, 9, 10, 11, 12, 13, 14, 15, 16, 17, 18, 19, 20, 21, 22, 23, 24, 25, 26, 27, 28, 29, 30, 31, 32, 33, 34, 35, 36, 37, 38, 39, 40, 41, 42, 43, 44, 45] (wN := (wX9 G h0 a0 wk f0 A0 ++ (wX1 G (a0 1) a1 f1 A1 ++ (wX6 G (a0 2) a2 f2 A2 ++ (wX6 G (a0 3) a3 f3 A3 ++ (wB G (a0 5) g4 aB4 fB4 AB4 ++ (wX5 G (a0 6) a5 f5 A5 ++ (wX2 G (a0 11) a6 f6 A6)))))))) rfl rfl rfl rfl rfl hl.1 (Nat.le_of_ble_eq_true rfl) dX9_alone_12 (fun H locs hPD hS => ?_)
    refine lv_if_ne (tgt := 20) hx hb dX9_alone_15 (by decide) (fun cc1 => ?_) (fun cc1 => ?_)
    · have h := (if_neg cc1).symm.trans h
      refine lv_iconst (v := 0) hx hb dX9_alone_20 (by decide) ?_
      refine lv_istore_n (lv' := [(3, .int 0), (0, .ref h0), (1, .int p1), (2, .int p2)]) hx hb dX9_alone_21 rfl hl (by decide) rfl (fun ls hl => ?_)
      refine lv_iconst (v := 0) hx hb dX9_alone_22 (by decide) ?_
      refine lv_istore (lv' := [(4, .int 0), (3, .int 0), (0, .ref h0), (1, .int p1), (2, .int p2)]) hx hb dX9_alone_23 hl (by decide) rfl (fun ls hl => ?_)
      refine lv_aload_n hx hb dX9_alone_25 rfl (lv_at hl 2 rfl) ?_
      refine va_get (D := G.1) (ci := 9) (v := .ref (a0 3)) (C := RX9) (T := TX9) (N := 15) hx hb hts inlX9 hown hK hPD.1 0 rfl rfl 3 (by decide) (hts _ gw_427) (fun _ h9 => h9) rfl dX9_alone_26 ?_
      refine lv_aload_n hx hb dX9_alone_29 rfl (lv_at hl 2 rfl) ?_
      refine va_get (D := G.1) (ci := 9) (v := .ref (a0 2)) (C := RX9) (T := TX9) (N := 15) hx hb hts inlX9 hown hK hPD.1 0 rfl rfl 2 (by decide) (hts _ gw_356) (fun _ h9 => h9) rfl dX9_alone_30 ?_
      obtain ⟨q_2, hq_2, h⟩ := ob2 h
      refine kVV (As := [.ref (a0 2)]) (rest := []) C0 (kt_X6_copy l G (a0 3) a3 (a0 2) a2 f3 A3 f2 A2 hq_2) gi_V_X9_178_X6_copy (n := 1) rfl (by decide +kernel) rfl ⟨rfl, rfl, Nat.le_of_ble_eq_true rfl, Nat.le_of_ble_eq_true rfl⟩ hPD hS 12 6 rfl rfl rfl [12, 13, 14, 15, 16, 17, 6, 7, 8, 9, 10, 11] [0, 1, 2, 3, 4, 5, 18, 19, 20, 21, 22, 23, 24, 25, 26, 27, 28, 29, 30, 31, 32, 33, 34, 35, 36, 37, 38, 39, 40, 41, 42, 43, 44, 45] [0, 1, 2, 3, 4, 5, 40, 41, 42, 43, 44, 45, 34, 35, 36, 37, 38, 39, 6, 7, 8, 9, 10, 11, 12, 13, 14, 15, 16, 17, 18, 19, 20, 21, 22, 23, 24, 25, 26, 27, 28, 29, 30, 31, 32, 33] (wN := (wX9 G h0 a0 wk f0 A0 ++ (wX1 G (a0 1) a1 f1 A1 ++ (wX6 G (a0 2) a2 f2 A2 ++ (wX6 G (a0 3) a3 q_2.2 q_2.1 ++ (wB G (a0 5) g4 aB4 fB4 AB4 ++ (wX5 G (a0 6) a5 f5 A5 ++ (wX2 G (a0 11) a6 f6 A6)))))))) rfl rfl rfl rfl rfl hl.1 (Nat.le_of_ble_eq_true rfl) dX9_alone_33 (fun H locs hPD hS => ?_)
      refine lv_iconst (v := 0) hx hb dX9_alone_36 (by decide) ?_
      refine lv_istore (lv' := [(5, .int 0), (4, .int 0), (3, .int 0), (0, .ref h0), (1, .int p1), (2, .int p2)]) hx hb dX9_alone_37 hl (by decide) rfl (fun ls hl => ?_)
      exact ww_f9_alone_l39 C0 NF q_2.1 q_2.2 A5 f5 A6 f6 0 0 0 h _ _ _ hPD hS (lv_sub hl [3, 4, 5, 2, 1, 0] rfl)
    · have h := (if_pos cc1).symm.trans h
      refine lv_iconst (v := (-1)) hx hb dX9_alone_18 (by decide) ?_
      obtain rfl := Option.some.inj h
      exact eI C0 hPD.1 hPD.2 hS rfl dX9_alone_19
abbrev rmX9_together : Room := { frames := 7, cells := 0, slots := 0, locals := 159 }
set_option maxRecDepth 100000 in
set_option maxHeartbeats 4000000 in
theorem ww_f9_together_b77  (C0 : Cx cX9_together 5 (some .int) RX9 p s m args meth c G DA) {h0 : Nat} {a0 : Nat → Nat} {wk : Option Nat} {a1 : Nat → Nat} {a2 : Nat → Nat} {a3 : Nat → Nat} {g4 : Nat → Nat} {aB4 : Nat → Nat → Nat} {a5 : Nat → Nat} {a6 : Nat → Nat} {f0 : Nat → Int32} {A0 : Nat → Nat → Int32} {f1 : Nat → Int32} {A1 : Nat → Nat → Int32} {f2 : Nat → Int32} {A2 : Nat → Nat → Int32} {fB4 : Nat → Nat → Int32} {AB4 : Nat → Nat → Nat → Int32} {p1 : Int32} {p2 : Int32} {p3 : Int32}  {k77 : (Nat → Nat → Int32) → (Nat → Int32) → (Nat → Nat → Int32) → (Nat → Int32) → (Nat → Nat → Int32) → (Nat → Int32) → Int32 → Option (Int32 × (Nat → Nat → Int32) × (Nat → Int32) × (Nat → Nat → Int32) × (Nat → Int32) × (Nat → Nat → Int32) × (Nat → Int32))} {res : Int32 × (Nat → Nat → Int32) × (Nat → Int32) × (Nat → Nat → Int32) × (Nat → Int32) × (Nat → Nat → Int32) × (Nat → Int32)}  (hk77 : ∀ (A3 : Nat → Nat → Int32) (f3 : Nat → Int32) (A5 : Nat → Nat → Int32) (f5 : Nat → Int32) (A6 : Nat → Nat → Int32) (f6 : Nat → Int32) (l4 : Int32), k77 A3 f3 A5 f5 A6 f6 l4 = some res → ∀ (H : Heap) (locs : List Loc) (ls : Array Slot), WD G DA (wX9 G h0 a0 wk f0 A0 ++ (wX1 G (a0 1) a1 f1 A1 ++ (wX6 G (a0 2) a2 f2 A2 ++ (wX6 G (a0 3) a3 f3 A3 ++ (wB G (a0 5) g4 aB4 fB4 AB4 ++ (wX5 G (a0 6) a5 f5 A5 ++ (wX2 G (a0 11) a6 f6 A6))))))) H → va_S DA s.heap H locs → lv_has ls 5 [(0, .ref h0), (1, .int p1), (2, .int p2), (3, .int p3), (4, .int l4)] → W p l e rmX9_together s m args below meth c H locs 0 0 (MQ below (QI G DA res.1 (wX9 G h0 a0 wk f0 A0 ++ (wX1 G (a0 1) a1 f1 A1 ++ (wX6 G (a0 2) a2 f2 A2 ++ (wX6 G (a0 3) a3 res.2.2.1 res.2.1 ++ (wB G (a0 5) g4 aB4 fB4 AB4 ++ (wX5 G (a0 6) a5 res.2.2.2.2.1 res.2.2.2.1 ++ (wX2 G (a0 11) a6 res.2.2.2.2.2.2 res.2.2.2.2.2.1)))))))) args s 0 0 DA) (F0 m 77 ls [])) : ∀ (A3 : Nat → Nat → Int32) (f3 : Nat → Int32) (A5 : Nat → Nat → Int32) (f5 : Nat → Int32) (A6 : Nat → Nat → Int32) (f6 : Nat → Int32) (l4 : Int32), f9_together_b77 f0 A0 f1 A1 f2 A2 fB4 AB4 p1 p2 p3  k77 A3 f3 A5 f5 A6 f6 l4 = some res → ∀ (H : Heap) (locs : List Loc) (ls : Array Slot), WD G DA (wX9 G h0 a0 wk f0 A0 ++ (wX1 G (a0 1) a1 f1 A1 ++ (wX6 G (a0 2) a2 f2 A2 ++ (wX6 G (a0 3) a3 f3 A3 ++ (wB G (a0 5) g4 aB4 fB4 AB4 ++ (wX5 G (a0 6) a5 f5 A5 ++ (wX2 G (a0 11) a6 f6 A6))))))) H → va_S DA s.heap H locs → lv_has ls 5 [(0, .ref h0), (1, .int p1), (2, .int p2), (3, .int p3), (4, .int l4)] → W p l e rmX9_together s m args below meth c H locs 0 0 (MQ below (QI G DA res.1 (wX9 G h0 a0 wk f0 A0 ++ (wX1 G (a0 1) a1 f1 A1 ++ (wX6 G (a0 2) a2 f2 A2 ++ (wX6 G (a0 3) a3 res.2.2.1 res.2.1 ++ (wB G (a0 5) g4 aB4 fB4 AB4 ++ (wX5 G (a0 6) a5 res.2.2.2.2.1 res.2.2.2.1 ++ (wX2 G (a0 11) a6 res.2.2.2.2.2.2 res.2.2.2.2.2.1)))))))) args s 0 0 DA) (F0 m 77 ls []) := by
  obtain ⟨hx, hb, hml, hown, hts⟩ := C0.1
  have hK := C0.2.2.2.1
  intro A3 f3 A5 f5 A6 f6 l4 h _ _ _ hPD hS hl
  unfold f9_together_b77 at h
  refine lv_iload hx hb dX9_together_77 (lv_at hl 4 rfl) ?_
  refine lv_iload_n hx hb dX9_together_79 rfl (lv_at hl 3 rfl) ?_
  refine lv_icmp_gt (tgt := 128) hx hb dX9_together_80 (by decide) (fun cc1 => ?_) (fun cc1 => ?_)
  · have h := (if_pos cc1).symm.trans h
    refine lv_bipush (v := (-2)) hx hb dX9_together_128 (by decide) ?_
    obtain rfl := Option.some.inj h
    exact eI C0 hPD.1 hPD.2 hS rfl dX9_together_130
  · have h := (if_neg cc1).symm.trans h
    refine lv_aload_n hx hb dX9_together_83 rfl (lv_at hl 0 rfl) ?_
    refine lv_aload_n hx hb dX9_together_84 rfl (lv_at hl 0 rfl) ?_
    refine va_get (D := G.1) (ci := 9) (v := .ref (a0 3)) (C := RX9) (T := TX9) (N := 15) hx hb hts inlX9 hown hK hPD.1 0 rfl rfl 3 (by decide) (hts _ gw_427) (fun _ h9 => h9) rfl dX9_together_85 ?_
    obtain ⟨q_3, hq_3, h⟩ := ob2 h
    refine kVI (As := [.ref (a0 3)]) (rest := []) C0 (kt_X9_passes l G h0 a0 wk a1 g4 aB4 a5 a6 (a0 3) a3 f0 A0 f1 A1 fB4 AB4 f5 A5 f6 A6 f3 A3 hq_3) gi_V_X9_168_X9_passes (n := 1) rfl (by decide +kernel) rfl ⟨rfl, rfl, Nat.le_of_ble_eq_true rfl, Nat.le_of_ble_eq_true rfl⟩ hPD hS 0 9 rfl rfl rfl [0, 1, 2, 3, 4, 5, 18, 19, 20, 21, 22, 23, 24, 25, 26, 27, 28, 29, 30, 31, 32, 33, 34, 35, 36, 37, 38, 39, 40, 41, 42, 43, 44, 45, 12, 13, 14, 15, 16, 17] [6, 7, 8, 9, 10, 11] [6, 7, 8, 9, 10, 11, 0, 1, 2, 3, 4, 5, 40, 41, 42, 43, 44, 45, 12, 13, 14, 15, 16, 17, 18, 19, 20, 21, 22, 23, 24, 25, 26, 27, 28, 29, 30, 31, 32, 33, 34, 35, 36, 37, 38, 39] (wN := (wX9 G h0 a0 wk f0 A0 ++ (wX1 G (a0 1) a1 f1 A1 ++ (wX6 G (a0 2) a2 f2 A2 ++ (wX6 G (a0 3) a3 q_3.2.2.2.2.2.2 q_3.2.2.2.2.2.1 ++ (wB G (a0 5) g4 aB4 fB4 AB4 ++ (wX5 G (a0 6) a5 q_3.2.2.1 q_3.2.1 ++ (wX2 G (a0 11) a6 q_3.2.2.2.2.1 q_3.2.2.2.1)))))))) rfl rfl rfl rfl rfl hl.1 (Nat.le_of_ble_eq_true rfl) dX9_together_88 (fun H locs hPD hS => ?_)
    refine lv_if_eq (tgt := 128) hx hb dX9_together_91 (by decide) (fun cc1 => ?_) (fun cc1 => ?_)
    · have h := (if_pos cc1).symm.trans h
      refine lv_bipush (v := (-2)) hx hb dX9_together_128 (by decide) ?_
      obtain rfl := Option.some.inj h
      exact eI C0 hPD.1 hPD.2 hS rfl dX9_together_130
    · have h := (if_neg cc1).symm.trans h
      refine lv_aload_n hx hb dX9_together_94 rfl (lv_at hl 0 rfl) ?_
      refine va_get (D := G.1) (ci := 9) (v := .ref (a0 3)) (C := RX9) (T := TX9) (N := 15) hx hb hts inlX9 hown hK hPD.1 0 rfl rfl 3 (by decide) (hts _ gw_427) (fun _ h9 => h9) rfl dX9_together_95 ?_
      refine va_get (D := G.1) (ci := 6) (v := .ref (a3 3)) (C := RX6) (T := TX6) (N := 10) hx hb hts inlX6 hown hK hPD.1 12 rfl rfl 3 (by decide) (hts _ gw_362) (fun _ h9 => h9) rfl dX9_together_98 ?_
      refine lv_iload_n hx hb dX9_together_101 rfl (lv_at hl 1 rfl) ?_
      refine kSI (As := [.ref (a3 3), .int p1]) (rest := []) C0 (kt_X9_at l G (a3 3) 8 (q_3.2.2.2.2.2.1 3) p1 (by decide)) gi_S_X9_188_X9_at (n := 2) rfl (by decide +kernel) ⟨rfl, rfl, Nat.le_of_ble_eq_true rfl, Nat.le_of_ble_eq_true rfl⟩ hPD hS [16] [0, 1, 2, 3, 4, 5, 6, 7, 8, 9, 10, 11, 12, 13, 14, 15, 17, 18, 19, 20, 21, 22, 23, 24, 25, 26, 27, 28, 29, 30, 31, 32, 33, 34, 35, 36, 37, 38, 39, 40, 41, 42, 43, 44, 45] [0, 1, 2, 3, 4, 5, 6, 7, 8, 9, 10, 11, 12, 13, 14, 15, 45, 16, 17, 18, 19, 20, 21, 22, 23, 24, 25, 26, 27, 28, 29, 30, 31, 32, 33, 34, 35, 36, 37, 38, 39, 40, 41, 42, 43, 44] (wN := (wX9 G h0 a0 wk f0 A0 ++ (wX1 G (a0 1) a1 f1 A1 ++ (wX6 G (a0 2) a2 f2 A2 ++ (wX6 G (a0 3) a3 q_3.2.2.2.2.2.2 q_3.2.2.2.2.2.1 ++ (wB G (a0 5) g4 aB4 fB4 AB4 ++ (wX5 G (a0 6) a5 q_3.2.2.1 q_3.2.1 ++ (wX2 G (a0 11) a6 q_3.2.2.2.2.1 q_3.2.2.2.1)))))))) rfl rfl rfl rfl rfl hl.1 (Nat.le_of_ble_eq_true rfl) dX9_together_102 (fun H locs hPD hS => ?_)
      refine lv_aload_n hx hb dX9_together_105 rfl (lv_at hl 0 rfl) ?_
      refine va_get (D := G.1) (ci := 9) (v := .ref (a0 3)) (C := RX9) (T := TX9) (N := 15) hx hb hts inlX9 hown hK hPD.1 0 rfl rfl 3 (by decide) (hts _ gw_427) (fun _ h9 => h9) rfl dX9_together_106 ?_
      refine va_get (D := G.1) (ci := 6) (v := .ref (a3 3)) (C := RX6) (T := TX6) (N := 10) hx hb hts inlX6 hown hK hPD.1 12 rfl rfl 3 (by decide) (hts _ gw_362) (fun _ h9 => h9) rfl dX9_together_109 ?_
      refine lv_iload_n hx hb dX9_together_112 rfl (lv_at hl 2 rfl) ?_
      refine kSI (As := [.ref (a3 3), .int p2]) (rest := [.int (f9_at 8 (q_3.2.2.2.2.2.1 3) p1)]) C0 (kt_X9_at l G (a3 3) 8 (q_3.2.2.2.2.2.1 3) p2 (by decide)) gi_S_X9_188_X9_at (n := 2) rfl (by decide +kernel) ⟨rfl, rfl, Nat.le_of_ble_eq_true rfl, Nat.le_of_ble_eq_true rfl⟩ hPD hS [16] [0, 1, 2, 3, 4, 5, 6, 7, 8, 9, 10, 11, 12, 13, 14, 15, 17, 18, 19, 20, 21, 22, 23, 24, 25, 26, 27, 28, 29, 30, 31, 32, 33, 34, 35, 36, 37, 38, 39, 40, 41, 42, 43, 44, 45] [0, 1, 2, 3, 4, 5, 6, 7, 8, 9, 10, 11, 12, 13, 14, 15, 45, 16, 17, 18, 19, 20, 21, 22, 23, 24, 25, 26, 27, 28, 29, 30, 31, 32, 33, 34, 35, 36, 37, 38, 39, 40, 41, 42, 43, 44] (wN := (wX9 G h0 a0 wk f0 A0 ++ (wX1 G (a0 1) a1 f1 A1 ++ (wX6 G (a0 2) a2 f2 A2 ++ (wX6 G (a0 3) a3 q_3.2.2.2.2.2.2 q_3.2.2.2.2.2.1 ++ (wB G (a0 5) g4 aB4 fB4 AB4 ++ (wX5 G (a0 6) a5 q_3.2.2.1 q_3.2.1 ++ (wX2 G (a0 11) a6 q_3.2.2.2.2.1 q_3.2.2.2.1)))))))) rfl rfl rfl rfl rfl hl.1 (Nat.le_of_ble_eq_true rfl) dX9_together_113 (fun H locs hPD hS => ?_)
      refine lv_icmp_ne (tgt := 122) hx hb dX9_together_116 (by decide) (fun cc1 => ?_) (fun cc1 => ?_)
      · have h := (if_neg cc1).symm.trans h
        refine lv_iinc (v := l4 + 1) (lv' := [(4, .int (l4 + 1)), (0, .ref h0), (1, .int p1), (2, .int p2), (3, .int p3)]) hx hb dX9_together_122 hl (k := 4) rfl rfl (by decide) rfl (fun ls hl => ?_)
        refine lv_goto (tgt := 77) hx hb dX9_together_125 (by decide) ?_
        exact hk77 q_3.2.2.2.2.2.1 q_3.2.2.2.2.2.2 q_3.2.1 q_3.2.2.1 q_3.2.2.2.1 q_3.2.2.2.2.1 (l4 + 1) h _ _ _ hPD hS (lv_sub hl [1, 2, 3, 4, 0] rfl)
      · have h := (if_pos cc1).symm.trans h
        refine lv_iload hx hb dX9_together_119 (lv_at hl 4 rfl) ?_
        obtain rfl := Option.some.inj h
        exact eI C0 hPD.1 hPD.2 hS rfl dX9_together_121
set_option maxRecDepth 100000 in
set_option maxHeartbeats 4000000 in
theorem ww_f9_together_l77  (C0 : Cx cX9_together 5 (some .int) RX9 p s m args meth c G DA) {h0 : Nat} {a0 : Nat → Nat} {wk : Option Nat} {a1 : Nat → Nat} {a2 : Nat → Nat} {a3 : Nat → Nat} {g4 : Nat → Nat} {aB4 : Nat → Nat → Nat} {a5 : Nat → Nat} {a6 : Nat → Nat} {f0 : Nat → Int32} {A0 : Nat → Nat → Int32} {f1 : Nat → Int32} {A1 : Nat → Nat → Int32} {f2 : Nat → Int32} {A2 : Nat → Nat → Int32} {fB4 : Nat → Nat → Int32} {AB4 : Nat → Nat → Nat → Int32} {p1 : Int32} {p2 : Int32} {p3 : Int32}   {res : Int32 × (Nat → Nat → Int32) × (Nat → Int32) × (Nat → Nat → Int32) × (Nat → Int32) × (Nat → Nat → Int32) × (Nat → Int32)}  : ∀ (n : Nat) (A3 : Nat → Nat → Int32) (f3 : Nat → Int32) (A5 : Nat → Nat → Int32) (f5 : Nat → Int32) (A6 : Nat → Nat → Int32) (f6 : Nat → Int32) (l4 : Int32), f9_together_l77 f0 A0 f1 A1 f2 A2 fB4 AB4 p1 p2 p3  n A3 f3 A5 f5 A6 f6 l4 = some res → ∀ (H : Heap) (locs : List Loc) (ls : Array Slot), WD G DA (wX9 G h0 a0 wk f0 A0 ++ (wX1 G (a0 1) a1 f1 A1 ++ (wX6 G (a0 2) a2 f2 A2 ++ (wX6 G (a0 3) a3 f3 A3 ++ (wB G (a0 5) g4 aB4 fB4 AB4 ++ (wX5 G (a0 6) a5 f5 A5 ++ (wX2 G (a0 11) a6 f6 A6))))))) H → va_S DA s.heap H locs → lv_has ls 5 [(0, .ref h0), (1, .int p1), (2, .int p2), (3, .int p3), (4, .int l4)] → W p l e rmX9_together s m args below meth c H locs 0 0 (MQ below (QI G DA res.1 (wX9 G h0 a0 wk f0 A0 ++ (wX1 G (a0 1) a1 f1 A1 ++ (wX6 G (a0 2) a2 f2 A2 ++ (wX6 G (a0 3) a3 res.2.2.1 res.2.1 ++ (wB G (a0 5) g4 aB4 fB4 AB4 ++ (wX5 G (a0 6) a5 res.2.2.2.2.1 res.2.2.2.1 ++ (wX2 G (a0 11) a6 res.2.2.2.2.2.2 res.2.2.2.2.2.1)))))))) args s 0 0 DA) (F0 m 77 ls []) := by
  intro n
  induction n with
  | zero => intro A3 f3 A5 f5 A6 f6 l4 h; cases h
  | succ n ih => intro A3 f3 A5 f5 A6 f6 l4 h; exact ww_f9_together_b77 C0  ih A3 f3 A5 f5 A6 f6 l4 h
set_option maxRecDepth 100000 in
set_option maxHeartbeats 4000000 in
theorem kt_X9_together (l : Launch) (G : Gp) (h0 : Nat) (a0 : Nat → Nat) (wk : Option Nat) (a1 : Nat → Nat) (a2 : Nat → Nat) (a3 : Nat → Nat) (g4 : Nat → Nat) (aB4 : Nat → Nat → Nat) (a5 : Nat → Nat) (a6 : Nat → Nat) (f0 : Nat → Int32) (A0 : Nat → Nat → Int32) (f1 : Nat → Int32) (A1 : Nat → Nat → Int32) (f2 : Nat → Int32) (A2 : Nat → Nat → Int32) (f3 : Nat → Int32) (A3 : Nat → Nat → Int32) (fB4 : Nat → Nat → Int32) (AB4 : Nat → Nat → Nat → Int32) (f5 : Nat → Int32) (A5 : Nat → Nat → Int32) (f6 : Nat → Int32) (A6 : Nat → Nat → Int32) (p1 : Int32) (p2 : Int32) (p3 : Int32) : ∀ {r : Int32 × (Nat → Nat → Int32) × (Nat → Int32) × (Nat → Nat → Int32) × (Nat → Int32) × (Nat → Nat → Int32) × (Nat → Int32)}, f9_together f0 A0 f1 A1 f2 A2 f3 A3 fB4 AB4 f5 A5 f6 A6 p1 p2 p3 = some r → CtrI l yX9_together cX9_together 5 (some .int) rmX9_together G [.ref h0, .int p1, .int p2, .int p3] (wX9 G h0 a0 wk f0 A0 ++ (wX1 G (a0 1) a1 f1 A1 ++ (wX6 G (a0 2) a2 f2 A2 ++ (wX6 G (a0 3) a3 f3 A3 ++ (wB G (a0 5) g4 aB4 fB4 AB4 ++ (wX5 G (a0 6) a5 f5 A5 ++ (wX2 G (a0 11) a6 f6 A6))))))) r.1 (wX9 G h0 a0 wk f0 A0 ++ (wX1 G (a0 1) a1 f1 A1 ++ (wX6 G (a0 2) a2 f2 A2 ++ (wX6 G (a0 3) a3 r.2.2.1 r.2.1 ++ (wB G (a0 5) g4 aB4 fB4 AB4 ++ (wX5 G (a0 6) a5 r.2.2.2.2.1 r.2.2.2.1 ++ (wX2 G (a0 11) a6 r.2.2.2.2.2.2 r.2.2.2.2.2.1))))))) := by
  intro res h
  refine ctrI_of (cc := cX9_together) (maxL := 5) (ret := (some .int)) (by decide +kernel) rfl (Nat.le_of_ble_eq_true rfl) (fun p e s m below meth c DA C0 hP hD ls hl => ?_)
  have hPD : WD G DA (wX9 G h0 a0 wk f0 A0 ++ (wX1 G (a0 1) a1 f1 A1 ++ (wX6 G (a0 2) a2 f2 A2 ++ (wX6 G (a0 3) a3 f3 A3 ++ (wB G (a0 5) g4 aB4 fB4 AB4 ++ (wX5 G (a0 6) a5 f5 A5 ++ (wX2 G (a0 11) a6 f6 A6))))))) s.heap := ⟨hP, hD⟩
  have hS : va_S DA s.heap s.heap [] := va_S.rf
  have hl : lv_has ls 5 [(0, .ref h0), (1, .int p1), (2, .int p2), (3, .int p3)] := hl
  obtain ⟨hx, hb, hml, hown, hts⟩ := C0.1
  have hK := C0.2.2.2.1
  unfold f9_together at h
  refine lv_aload_n hx hb dX9_together_0 rfl (lv_at hl 0 rfl) ?_
  refine va_get (D := G.1) (ci := 9) (v := .ref (a0 2)) (C := RX9) (T := TX9) (N := 15) hx hb hts inlX9 hown hK hPD.1 0 rfl rfl 2 (by decide) (hts _ gw_356) (fun _ h9 => h9) rfl dX9_together_1 ?_
  refine lv_iload_n hx hb dX9_together_4 rfl (lv_at hl 1 rfl) ?_
  refine kVI (As := [.int p1]) (rest := []) C0 (kt_X6_isTold l G (a0 2) a2 f2 A2 p1) gi_V_X9_195_X6_isTold (n := 1) rfl (by decide +kernel) rfl ⟨rfl, rfl, Nat.le_of_ble_eq_true rfl, Nat.le_of_ble_eq_true rfl⟩ hPD hS 6 6 rfl rfl rfl [6, 7, 8, 9, 10, 11] [0, 1, 2, 3, 4, 5, 12, 13, 14, 15, 16, 17, 18, 19, 20, 21, 22, 23, 24, 25, 26, 27, 28, 29, 30, 31, 32, 33, 34, 35, 36, 37, 38, 39, 40, 41, 42, 43, 44, 45] [0, 1, 2, 3, 4, 5, 40, 41, 42, 43, 44, 45, 6, 7, 8, 9, 10, 11, 12, 13, 14, 15, 16, 17, 18, 19, 20, 21, 22, 23, 24, 25, 26, 27, 28, 29, 30, 31, 32, 33, 34, 35, 36, 37, 38, 39] (wN := (wX9 G h0 a0 wk f0 A0 ++ (wX1 G (a0 1) a1 f1 A1 ++ (wX6 G (a0 2) a2 f2 A2 ++ (wX6 G (a0 3) a3 f3 A3 ++ (wB G (a0 5) g4 aB4 fB4 AB4 ++ (wX5 G (a0 6) a5 f5 A5 ++ (wX2 G (a0 11) a6 f6 A6)))))))) rfl rfl rfl rfl rfl hl.1 (Nat.le_of_ble_eq_true rfl) dX9_together_5 (fun H locs hPD hS => ?_)
  refine lv_if_eq (tgt := 34) hx hb dX9_together_8 (by decide) (fun cc1 => ?_) (fun cc1 => ?_)
  · have h := (if_pos cc1).symm.trans h
    refine lv_iconst (v := (-1)) hx hb dX9_together_34 (by decide) ?_
    obtain rfl := Option.some.inj h
    exact eI C0 hPD.1 hPD.2 hS rfl dX9_together_35
  · have h := (if_neg cc1).symm.trans h
    refine lv_aload_n hx hb dX9_together_11 rfl (lv_at hl 0 rfl) ?_
    refine va_get (D := G.1) (ci := 9) (v := .ref (a0 2)) (C := RX9) (T := TX9) (N := 15) hx hb hts inlX9 hown hK hPD.1 0 rfl rfl 2 (by decide) (hts _ gw_356) (fun _ h9 => h9) rfl dX9_together_12 ?_
    refine lv_iload_n hx hb dX9_together_15 rfl (lv_at hl 2 rfl) ?_
    refine kVI (As := [.int p2]) (rest := []) C0 (kt_X6_isTold l G (a0 2) a2 f2 A2 p2) gi_V_X9_195_X6_isTold (n := 1) rfl (by decide +kernel) rfl ⟨rfl, rfl, Nat.le_of_ble_eq_true rfl, Nat.le_of_ble_eq_true rfl⟩ hPD hS 6 6 rfl rfl rfl [6, 7, 8, 9, 10, 11] [0, 1, 2, 3, 4, 5, 12, 13, 14, 15, 16, 17, 18, 19, 20, 21, 22, 23, 24, 25, 26, 27, 28, 29, 30, 31, 32, 33, 34, 35, 36, 37, 38, 39, 40, 41, 42, 43, 44, 45] [0, 1, 2, 3, 4, 5, 40, 41, 42, 43, 44, 45, 6, 7, 8, 9, 10, 11, 12, 13, 14, 15, 16, 17, 18, 19, 20, 21, 22, 23, 24, 25, 26, 27, 28, 29, 30, 31, 32, 33, 34, 35, 36, 37, 38, 39] (wN := (wX9 G h0 a0 wk f0 A0 ++ (wX1 G (a0 1) a1 f1 A1 ++ (wX6 G (a0 2) a2 f2 A2 ++ (wX6 G (a0 3) a3 f3 A3 ++ (wB G (a0 5) g4 aB4 fB4 AB4 ++ (wX5 G (a0 6) a5 f5 A5 ++ (wX2 G (a0 11) a6 f6 A6)))))))) rfl rfl rfl rfl rfl hl.1 (Nat.le_of_ble_eq_true rfl) dX9_together_16 (fun H locs hPD hS => ?_)
    refine lv_if_eq (tgt := 34) hx hb dX9_together_19 (by decide) (fun cc1 => ?_) (fun cc1 => ?_)
    · have h := (if_pos cc1).symm.trans h
      refine lv_iconst (v := (-1)) hx hb dX9_together_34 (by decide) ?_
      obtain rfl := Option.some.inj h
      exact eI C0 hPD.1 hPD.2 hS rfl dX9_together_35
    · have h := (if_neg cc1).symm.trans h
      refine lv_iload_n hx hb dX9_together_22 rfl (lv_at hl 1 rfl) ?_
      refine lv_iload_n hx hb dX9_together_23 rfl (lv_at hl 2 rfl) ?_
      refine lv_icmp_eq (tgt := 34) hx hb dX9_together_24 (by decide) (fun cc1 => ?_) (fun cc1 => ?_)
      · have h := (if_pos cc1).symm.trans h
        refine lv_iconst (v := (-1)) hx hb dX9_together_34 (by decide) ?_
        obtain rfl := Option.some.inj h
        exact eI C0 hPD.1 hPD.2 hS rfl dX9_together_35
      · have h := (if_neg cc1).symm.trans h
        refine lv_iload_n hx hb dX9_together_27 rfl (lv_at hl 3 rfl) ?_
        obtain ⟨q_1, hq_1, h⟩ := ob2 h
        refine kSI (As := [.int p3]) (rest := []) C0 (kt_X9_isHours l G  p3 hq_1) gi_S_X9_165_X9_isHours (n := 1) rfl (by decide +kernel) ⟨rfl, rfl, Nat.le_of_ble_eq_true rfl, Nat.le_of_ble_eq_true rfl⟩ hPD hS [] [0, 1, 2, 3, 4, 5, 6, 7, 8, 9, 10, 11, 12, 13, 14, 15, 16, 17, 18, 19, 20, 21, 22, 23, 24, 25, 26, 27, 28, 29, 30, 31, 32, 33, 34, 35, 36, 37, 38, 39, 40, 41, 42, 43, 44, 45] [0, 1, 2, 3, 4, 5, 6, 7, 8, 9, 10, 11, 12, 13, 14, 15, 16, 17, 18, 19, 20, 21, 22, 23, 24, 25, 26, 27, 28, 29, 30, 31, 32, 33, 34, 35, 36, 37, 38, 39, 40, 41, 42, 43, 44, 45] (wN := (wX9 G h0 a0 wk f0 A0 ++ (wX1 G (a0 1) a1 f1 A1 ++ (wX6 G (a0 2) a2 f2 A2 ++ (wX6 G (a0 3) a3 f3 A3 ++ (wB G (a0 5) g4 aB4 fB4 AB4 ++ (wX5 G (a0 6) a5 f5 A5 ++ (wX2 G (a0 11) a6 f6 A6)))))))) rfl rfl rfl rfl rfl hl.1 (Nat.le_of_ble_eq_true rfl) dX9_together_28 (fun H locs hPD hS => ?_)
        refine lv_if_ne (tgt := 36) hx hb dX9_together_31 (by decide) (fun cc1 => ?_) (fun cc1 => ?_)
        · have h := (if_neg cc1).symm.trans h
          refine lv_aload_n hx hb dX9_together_36 rfl (lv_at hl 0 rfl) ?_
          refine va_get (D := G.1) (ci := 9) (v := .ref (a0 2)) (C := RX9) (T := TX9) (N := 15) hx hb hts inlX9 hown hK hPD.1 0 rfl rfl 2 (by decide) (hts _ gw_356) (fun _ h9 => h9) rfl dX9_together_37 ?_
          refine va_get (D := G.1) (ci := 6) (v := .ref (a2 3)) (C := RX6) (T := TX6) (N := 10) hx hb hts inlX6 hown hK hPD.1 6 rfl rfl 3 (by decide) (hts _ gw_362) (fun _ h9 => h9) rfl dX9_together_40 ?_
          refine lv_iload_n hx hb dX9_together_43 rfl (lv_at hl 1 rfl) ?_
          refine kSI (As := [.ref (a2 3), .int p1]) (rest := []) C0 (kt_X9_at l G (a2 3) 8 (A2 3) p1 (by decide)) gi_S_X9_188_X9_at (n := 2) rfl (by decide +kernel) ⟨rfl, rfl, Nat.le_of_ble_eq_true rfl, Nat.le_of_ble_eq_true rfl⟩ hPD hS [10] [0, 1, 2, 3, 4, 5, 6, 7, 8, 9, 11, 12, 13, 14, 15, 16, 17, 18, 19, 20, 21, 22, 23, 24, 25, 26, 27, 28, 29, 30, 31, 32, 33, 34, 35, 36, 37, 38, 39, 40, 41, 42, 43, 44, 45] [0, 1, 2, 3, 4, 5, 6, 7, 8, 9, 45, 10, 11, 12, 13, 14, 15, 16, 17, 18, 19, 20, 21, 22, 23, 24, 25, 26, 27, 28, 29, 30, 31, 32, 33, 34, 35, 36, 37, 38, 39, 40, 41, 42, 43, 44] (wN := (wX9 G h0 a0 wk f0 A0 ++ (wX1 G (a0 1) a1 f1 A1 ++ (wX6 G (a0 2) a2 f2 A2 ++ (wX6 G (a0 3) a3 f3 A3 ++ (wB G (a0 5) g4 aB4 fB4 AB4 ++ (wX5 G (a0 6) a5 f5 A5 ++ (wX2 G (a0 11) a6 f6 A6)))))))) rfl rfl rfl rfl rfl hl.1 (Nat.le_of_ble_eq_true rfl) dX9_together_44 (fun H locs hPD hS => ?_)
          refine lv_aload_n hx hb dX9_together_47 rfl (lv_at hl 0 rfl) ?_
          refine va_get (D := G.1) (ci := 9) (v := .ref (a0 2)) (C := RX9) (T := TX9) (N := 15) hx hb hts inlX9 hown hK hPD.1 0 rfl rfl 2 (by decide) (hts _ gw_356) (fun _ h9 => h9) rfl dX9_together_48 ?_
          refine va_get (D := G.1) (ci := 6) (v := .ref (a2 3)) (C := RX6) (T := TX6) (N := 10) hx hb hts inlX6 hown hK hPD.1 6 rfl rfl 3 (by decide) (hts _ gw_362) (fun _ h9 => h9) rfl dX9_together_51 ?_
          refine lv_iload_n hx hb dX9_together_54 rfl (lv_at hl 2 rfl) ?_
          refine kSI (As := [.ref (a2 3), .int p2]) (rest := [.int (f9_at 8 (A2 3) p1)]) C0 (kt_X9_at l G (a2 3) 8 (A2 3) p2 (by decide)) gi_S_X9_188_X9_at (n := 2) rfl (by decide +kernel) ⟨rfl, rfl, Nat.le_of_ble_eq_true rfl, Nat.le_of_ble_eq_true rfl⟩ hPD hS [10] [0, 1, 2, 3, 4, 5, 6, 7, 8, 9, 11, 12, 13, 14, 15, 16, 17, 18, 19, 20, 21, 22, 23, 24, 25, 26, 27, 28, 29, 30, 31, 32, 33, 34, 35, 36, 37, 38, 39, 40, 41, 42, 43, 44, 45] [0, 1, 2, 3, 4, 5, 6, 7, 8, 9, 45, 10, 11, 12, 13, 14, 15, 16, 17, 18, 19, 20, 21, 22, 23, 24, 25, 26, 27, 28, 29, 30, 31, 32, 33, 34, 35, 36, 37, 38, 39, 40, 41, 42, 43, 44] (wN := (wX9 G h0 a0 wk f0 A0 ++ (wX1 G (a0 1) a1 f1 A1 ++ (wX6 G (a0 2) a2 f2 A2 ++ (wX6 G (a0 3) a3 f3 A3 ++ (wB G (a0 5) g4 aB4 fB4 AB4 ++ (wX5 G (a0 6) a5 f5 A5 ++ (wX2 G (a0 11) a6 f6 A6)))))))) rfl rfl rfl rfl rfl hl.1 (Nat.le_of_ble_eq_true rfl) dX9_together_55 (fun H locs hPD hS => ?_)
          refine lv_icmp_ne (tgt := 63) hx hb dX9_together_58 (by decide) (fun cc1 => ?_) (fun cc1 => ?_)
          · have h := (if_neg cc1).symm.trans h
            refine lv_aload_n hx hb dX9_together_63 rfl (lv_at hl 0 rfl) ?_
            refine va_get (D := G.1) (ci := 9) (v := .ref (a0 3)) (C := RX9) (T := TX9) (N := 15) hx hb hts inlX9 hown hK hPD.1 0 rfl rfl 3 (by decide) (hts _ gw_427) (fun _ h9 => h9) rfl dX9_together_64 ?_
            refine lv_aload_n hx hb dX9_together_67 rfl (lv_at hl 0 rfl) ?_
            refine va_get (D := G.1) (ci := 9) (v := .ref (a0 2)) (C := RX9) (T := TX9) (N := 15) hx hb hts inlX9 hown hK hPD.1 0 rfl rfl 2 (by decide) (hts _ gw_356) (fun _ h9 => h9) rfl dX9_together_68 ?_
            obtain ⟨q_2, hq_2, h⟩ := ob2 h
            refine kVV (As := [.ref (a0 2)]) (rest := []) C0 (kt_X6_copy l G (a0 3) a3 (a0 2) a2 f3 A3 f2 A2 hq_2) gi_V_X9_178_X6_copy (n := 1) rfl (by decide +kernel) rfl ⟨rfl, rfl, Nat.le_of_ble_eq_true rfl, Nat.le_of_ble_eq_true rfl⟩ hPD hS 12 6 rfl rfl rfl [12, 13, 14, 15, 16, 17, 6, 7, 8, 9, 10, 11] [0, 1, 2, 3, 4, 5, 18, 19, 20, 21, 22, 23, 24, 25, 26, 27, 28, 29, 30, 31, 32, 33, 34, 35, 36, 37, 38, 39, 40, 41, 42, 43, 44, 45] [0, 1, 2, 3, 4, 5, 40, 41, 42, 43, 44, 45, 34, 35, 36, 37, 38, 39, 6, 7, 8, 9, 10, 11, 12, 13, 14, 15, 16, 17, 18, 19, 20, 21, 22, 23, 24, 25, 26, 27, 28, 29, 30, 31, 32, 33] (wN := (wX9 G h0 a0 wk f0 A0 ++ (wX1 G (a0 1) a1 f1 A1 ++ (wX6 G (a0 2) a2 f2 A2 ++ (wX6 G (a0 3) a3 q_2.2 q_2.1 ++ (wB G (a0 5) g4 aB4 fB4 AB4 ++ (wX5 G (a0 6) a5 f5 A5 ++ (wX2 G (a0 11) a6 f6 A6)))))))) rfl rfl rfl rfl rfl hl.1 (Nat.le_of_ble_eq_true rfl) dX9_together_71 (fun H locs hPD hS => ?_)
            refine lv_iconst (v := 1) hx hb dX9_together_74 (by decide) ?_
            refine lv_istore (lv' := [(4, .int 1), (0, .ref h0), (1, .int p1), (2, .int p2), (3, .int p3)]) hx hb dX9_together_75 hl (by decide) rfl (fun ls hl => ?_)
            exact ww_f9_together_l77 C0 NF q_2.1 q_2.2 A5 f5 A6 f6 1 h _ _ _ hPD hS (lv_sub hl [1, 2, 3, 4, 0] rfl)
          · have h := (if_pos cc1).symm.trans h
            refine lv_iconst (v := 0) hx hb dX9_together_61 (by decide) ?_
            obtain rfl := Option.some.inj h
            exact eI C0 hPD.1 hPD.2 hS rfl dX9_together_62
        · have h := (if_pos cc1).symm.trans h
          refine lv_iconst (v := (-1)) hx hb dX9_together_34 (by decide) ?_
          obtain rfl := Option.some.inj h
          exact eI C0 hPD.1 hPD.2 hS rfl dX9_together_35
abbrev rmX9_seen : Room := { frames := 7, cells := 0, slots := 0, locals := 159 }
set_option maxRecDepth 100000 in
set_option maxHeartbeats 4000000 in
theorem ww_f9_seen_b24  (C0 : Cx cX9_seen 4 (some .int) RX9 p s m args meth c G DA) {h0 : Nat} {a0 : Nat → Nat} {wk : Option Nat} {a1 : Nat → Nat} {a2 : Nat → Nat} {a3 : Nat → Nat} {g4 : Nat → Nat} {aB4 : Nat → Nat → Nat} {a5 : Nat → Nat} {a6 : Nat → Nat} {f0 : Nat → Int32} {A0 : Nat → Nat → Int32} {f1 : Nat → Int32} {A1 : Nat → Nat → Int32} {f2 : Nat → Int32} {A2 : Nat → Nat → Int32} {fB4 : Nat → Nat → Int32} {AB4 : Nat → Nat → Nat → Int32} {p1 : Int32}  {k24 : (Nat → Nat → Int32) → (Nat → Int32) → (Nat → Nat → Int32) → (Nat → Int32) → (Nat → Nat → Int32) → (Nat → Int32) → Int32 → Int32 → Option (Int32 × (Nat → Nat → Int32) × (Nat → Int32) × (Nat → Nat → Int32) × (Nat → Int32) × (Nat → Nat → Int32) × (Nat → Int32))} {res : Int32 × (Nat → Nat → Int32) × (Nat → Int32) × (Nat → Nat → Int32) × (Nat → Int32) × (Nat → Nat → Int32) × (Nat → Int32)}  (hk24 : ∀ (A3 : Nat → Nat → Int32) (f3 : Nat → Int32) (A5 : Nat → Nat → Int32) (f5 : Nat → Int32) (A6 : Nat → Nat → Int32) (f6 : Nat → Int32) (l2 : Int32) (l3 : Int32), k24 A3 f3 A5 f5 A6 f6 l2 l3 = some res → ∀ (H : Heap) (locs : List Loc) (ls : Array Slot), WD G DA (wX9 G h0 a0 wk f0 A0 ++ (wX1 G (a0 1) a1 f1 A1 ++ (wX6 G (a0 2) a2 f2 A2 ++ (wX6 G (a0 3) a3 f3 A3 ++ (wB G (a0 5) g4 aB4 fB4 AB4 ++ (wX5 G (a0 6) a5 f5 A5 ++ (wX2 G (a0 11) a6 f6 A6))))))) H → va_S DA s.heap H locs → lv_has ls 4 [(0, .ref h0), (1, .int p1), (2, .int l2), (3, .int l3)] → W p l e rmX9_seen s m args below meth c H locs 0 0 (MQ below (QI G DA res.1 (wX9 G h0 a0 wk f0 A0 ++ (wX1 G (a0 1) a1 f1 A1 ++ (wX6 G (a0 2) a2 f2 A2 ++ (wX6 G (a0 3) a3 res.2.2.1 res.2.1 ++ (wB G (a0 5) g4 aB4 fB4 AB4 ++ (wX5 G (a0 6) a5 res.2.2.2.2.1 res.2.2.2.1 ++ (wX2 G (a0 11) a6 res.2.2.2.2.2.2 res.2.2.2.2.2.1)))))))) args s 0 0 DA) (F0 m 24 ls [])) : ∀ (A3 : Nat → Nat → Int32) (f3 : Nat → Int32) (A5 : Nat → Nat → Int32) (f5 : Nat → Int32) (A6 : Nat → Nat → Int32) (f6 : Nat → Int32) (l2 : Int32) (l3 : Int32), f9_seen_b24 f0 A0 f1 A1 f2 A2 fB4 AB4 p1  k24 A3 f3 A5 f5 A6 f6 l2 l3 = some res → ∀ (H : Heap) (locs : List Loc) (ls : Array Slot), WD G DA (wX9 G h0 a0 wk f0 A0 ++ (wX1 G (a0 1) a1 f1 A1 ++ (wX6 G (a0 2) a2 f2 A2 ++ (wX6 G (a0 3) a3 f3 A3 ++ (wB G (a0 5) g4 aB4 fB4 AB4 ++ (wX5 G (a0 6) a5 f5 A5 ++ (wX2 G (a0 11) a6 f6 A6))))))) H → va_S DA s.heap H locs → lv_has ls 4 [(0, .ref h0), (1, .int p1), (2, .int l2), (3, .int l3)] → W p l e rmX9_seen s m args below meth c H locs 0 0 (MQ below (QI G DA res.1 (wX9 G h0 a0 wk f0 A0 ++ (wX1 G (a0 1) a1 f1 A1 ++ (wX6 G (a0 2) a2 f2 A2 ++ (wX6 G (a0 3) a3 res.2.2.1 res.2.1 ++ (wB G (a0 5) g4 aB4 fB4 AB4 ++ (wX5 G (a0 6) a5 res.2.2.2.2.1 res.2.2.2.1 ++ (wX2 G (a0 11) a6 res.2.2.2.2.2.2 res.2.2.2.2.2.1)))))))) args s 0 0 DA) (F0 m 24 ls []) := by
  obtain ⟨hx, hb, hml, hown, hts⟩ := C0.1
  have hK := C0.2.2.2.1
  intro A3 f3 A5 f5 A6 f6 l2 l3 h _ _ _ hPD hS hl
  unfold f9_seen_b24 at h
  refine lv_iload_n hx hb dX9_seen_24 rfl (lv_at hl 3 rfl) ?_
  refine lv_iload_n hx hb dX9_seen_25 rfl (lv_at hl 1 rfl) ?_
  refine lv_icmp_ge (tgt := 56) hx hb dX9_seen_26 (by decide) (fun cc1 => ?_) (fun cc1 => ?_)
  · have h := (if_pos cc1).symm.trans h
    refine lv_iload_n hx hb dX9_seen_56 rfl (lv_at hl 2 rfl) ?_
    obtain rfl := Option.some.inj h
    exact eI C0 hPD.1 hPD.2 hS rfl dX9_seen_57
  · have h := (if_neg cc1).symm.trans h
    refine lv_aload_n hx hb dX9_seen_29 rfl (lv_at hl 0 rfl) ?_
    refine lv_aload_n hx hb dX9_seen_30 rfl (lv_at hl 0 rfl) ?_
    refine va_get (D := G.1) (ci := 9) (v := .ref (a0 3)) (C := RX9) (T := TX9) (N := 15) hx hb hts inlX9 hown hK hPD.1 0 rfl rfl 3 (by decide) (hts _ gw_427) (fun _ h9 => h9) rfl dX9_seen_31 ?_
    obtain ⟨q_3, hq_3, h⟩ := ob2 h
    refine kVI (As := [.ref (a0 3)]) (rest := []) C0 (kt_X9_passes l G h0 a0 wk a1 g4 aB4 a5 a6 (a0 3) a3 f0 A0 f1 A1 fB4 AB4 f5 A5 f6 A6 f3 A3 hq_3) gi_V_X9_168_X9_passes (n := 1) rfl (by decide +kernel) rfl ⟨rfl, rfl, Nat.le_of_ble_eq_true rfl, Nat.le_of_ble_eq_true rfl⟩ hPD hS 0 9 rfl rfl rfl [0, 1, 2, 3, 4, 5, 18, 19, 20, 21, 22, 23, 24, 25, 26, 27, 28, 29, 30, 31, 32, 33, 34, 35, 36, 37, 38, 39, 40, 41, 42, 43, 44, 45, 12, 13, 14, 15, 16, 17] [6, 7, 8, 9, 10, 11] [6, 7, 8, 9, 10, 11, 0, 1, 2, 3, 4, 5, 40, 41, 42, 43, 44, 45, 12, 13, 14, 15, 16, 17, 18, 19, 20, 21, 22, 23, 24, 25, 26, 27, 28, 29, 30, 31, 32, 33, 34, 35, 36, 37, 38, 39] (wN := (wX9 G h0 a0 wk f0 A0 ++ (wX1 G (a0 1) a1 f1 A1 ++ (wX6 G (a0 2) a2 f2 A2 ++ (wX6 G (a0 3) a3 q_3.2.2.2.2.2.2 q_3.2.2.2.2.2.1 ++ (wB G (a0 5) g4 aB4 fB4 AB4 ++ (wX5 G (a0 6) a5 q_3.2.2.1 q_3.2.1 ++ (wX2 G (a0 11) a6 q_3.2.2.2.2.1 q_3.2.2.2.1)))))))) rfl rfl rfl rfl rfl hl.1 (Nat.le_of_ble_eq_true rfl) dX9_seen_34 (fun H locs hPD hS => ?_)
    refine lv_if_eq (tgt := 56) hx hb dX9_seen_37 (by decide) (fun cc1 => ?_) (fun cc1 => ?_)
    · have h := (if_pos cc1).symm.trans h
      refine lv_iload_n hx hb dX9_seen_56 rfl (lv_at hl 2 rfl) ?_
      obtain rfl := Option.some.inj h
      exact eI C0 hPD.1 hPD.2 hS rfl dX9_seen_57
    · have h := (if_neg cc1).symm.trans h
      refine lv_iload_n hx hb dX9_seen_40 rfl (lv_at hl 2 rfl) ?_
      refine lv_aload_n hx hb dX9_seen_41 rfl (lv_at hl 0 rfl) ?_
      refine va_get (D := G.1) (ci := 9) (v := .ref (a0 3)) (C := RX9) (T := TX9) (N := 15) hx hb hts inlX9 hown hK hPD.1 0 rfl rfl 3 (by decide) (hts _ gw_427) (fun _ h9 => h9) rfl dX9_seen_42 ?_
      obtain ⟨q_4, hq_4, h⟩ := ob2 h
      refine kVI (As := []) (rest := [.int l2]) C0 (kt_X6_stoodAt l G (a0 3) a3 q_3.2.2.2.2.2.2 q_3.2.2.2.2.2.1 hq_4) gi_V_X9_205_X6_stoodAt (n := 0) rfl (by decide +kernel) rfl ⟨rfl, rfl, Nat.le_of_ble_eq_true rfl, Nat.le_of_ble_eq_true rfl⟩ hPD hS 12 6 rfl rfl rfl [12, 13, 14, 15, 16, 17] [0, 1, 2, 3, 4, 5, 6, 7, 8, 9, 10, 11, 18, 19, 20, 21, 22, 23, 24, 25, 26, 27, 28, 29, 30, 31, 32, 33, 34, 35, 36, 37, 38, 39, 40, 41, 42, 43, 44, 45] [0, 1, 2, 3, 4, 5, 6, 7, 8, 9, 10, 11, 40, 41, 42, 43, 44, 45, 12, 13, 14, 15, 16, 17, 18, 19, 20, 21, 22, 23, 24, 25, 26, 27, 28, 29, 30, 31, 32, 33, 34, 35, 36, 37, 38, 39] (wN := (wX9 G h0 a0 wk f0 A0 ++ (wX1 G (a0 1) a1 f1 A1 ++ (wX6 G (a0 2) a2 f2 A2 ++ (wX6 G (a0 3) a3 q_3.2.2.2.2.2.2 q_3.2.2.2.2.2.1 ++ (wB G (a0 5) g4 aB4 fB4 AB4 ++ (wX5 G (a0 6) a5 q_3.2.2.1 q_3.2.1 ++ (wX2 G (a0 11) a6 q_3.2.2.2.2.1 q_3.2.2.2.1)))))))) rfl rfl rfl rfl rfl hl.1 (Nat.le_of_ble_eq_true rfl) dX9_seen_45 (fun H locs hPD hS => ?_)
      refine lv_ior hx hb dX9_seen_48 ?_
      refine lv_istore_n (lv' := [(2, .int (l2 ||| q_4)), (0, .ref h0), (1, .int p1), (3, .int l3)]) hx hb dX9_seen_49 rfl hl (by decide) rfl (fun ls hl => ?_)
      refine lv_iinc (v := l3 + 1) (lv' := [(3, .int (l3 + 1)), (2, .int (l2 ||| q_4)), (0, .ref h0), (1, .int p1)]) hx hb dX9_seen_50 hl (k := 3) rfl rfl (by decide) rfl (fun ls hl => ?_)
      refine lv_goto (tgt := 24) hx hb dX9_seen_53 (by decide) ?_
      exact hk24 q_3.2.2.2.2.2.1 q_3.2.2.2.2.2.2 q_3.2.1 q_3.2.2.1 q_3.2.2.2.1 q_3.2.2.2.2.1 (l2 ||| q_4) (l3 + 1) h _ _ _ hPD hS (lv_sub hl [2, 3, 1, 0] rfl)
set_option maxRecDepth 100000 in
set_option maxHeartbeats 4000000 in
theorem ww_f9_seen_l24  (C0 : Cx cX9_seen 4 (some .int) RX9 p s m args meth c G DA) {h0 : Nat} {a0 : Nat → Nat} {wk : Option Nat} {a1 : Nat → Nat} {a2 : Nat → Nat} {a3 : Nat → Nat} {g4 : Nat → Nat} {aB4 : Nat → Nat → Nat} {a5 : Nat → Nat} {a6 : Nat → Nat} {f0 : Nat → Int32} {A0 : Nat → Nat → Int32} {f1 : Nat → Int32} {A1 : Nat → Nat → Int32} {f2 : Nat → Int32} {A2 : Nat → Nat → Int32} {fB4 : Nat → Nat → Int32} {AB4 : Nat → Nat → Nat → Int32} {p1 : Int32}   {res : Int32 × (Nat → Nat → Int32) × (Nat → Int32) × (Nat → Nat → Int32) × (Nat → Int32) × (Nat → Nat → Int32) × (Nat → Int32)}  : ∀ (n : Nat) (A3 : Nat → Nat → Int32) (f3 : Nat → Int32) (A5 : Nat → Nat → Int32) (f5 : Nat → Int32) (A6 : Nat → Nat → Int32) (f6 : Nat → Int32) (l2 : Int32) (l3 : Int32), f9_seen_l24 f0 A0 f1 A1 f2 A2 fB4 AB4 p1  n A3 f3 A5 f5 A6 f6 l2 l3 = some res → ∀ (H : Heap) (locs : List Loc) (ls : Array Slot), WD G DA (wX9 G h0 a0 wk f0 A0 ++ (wX1 G (a0 1) a1 f1 A1 ++ (wX6 G (a0 2) a2 f2 A2 ++ (wX6 G (a0 3) a3 f3 A3 ++ (wB G (a0 5) g4 aB4 fB4 AB4 ++ (wX5 G (a0 6) a5 f5 A5 ++ (wX2 G (a0 11) a6 f6 A6))))))) H → va_S DA s.heap H locs → lv_has ls 4 [(0, .ref h0), (1, .int p1), (2, .int l2), (3, .int l3)] → W p l e rmX9_seen s m args below meth c H locs 0 0 (MQ below (QI G DA res.1 (wX9 G h0 a0 wk f0 A0 ++ (wX1 G (a0 1) a1 f1 A1 ++ (wX6 G (a0 2) a2 f2 A2 ++ (wX6 G (a0 3) a3 res.2.2.1 res.2.1 ++ (wB G (a0 5) g4 aB4 fB4 AB4 ++ (wX5 G (a0 6) a5 res.2.2.2.2.1 res.2.2.2.1 ++ (wX2 G (a0 11) a6 res.2.2.2.2.2.2 res.2.2.2.2.2.1)))))))) args s 0 0 DA) (F0 m 24 ls []) := by
  intro n
  induction n with
  | zero => intro A3 f3 A5 f5 A6 f6 l2 l3 h; cases h
  | succ n ih => intro A3 f3 A5 f5 A6 f6 l2 l3 h; exact ww_f9_seen_b24 C0  ih A3 f3 A5 f5 A6 f6 l2 l3 h
set_option maxRecDepth 100000 in
set_option maxHeartbeats 4000000 in
theorem kt_X9_seen (l : Launch) (G : Gp) (h0 : Nat) (a0 : Nat → Nat) (wk : Option Nat) (a1 : Nat → Nat) (a2 : Nat → Nat) (a3 : Nat → Nat) (g4 : Nat → Nat) (aB4 : Nat → Nat → Nat) (a5 : Nat → Nat) (a6 : Nat → Nat) (f0 : Nat → Int32) (A0 : Nat → Nat → Int32) (f1 : Nat → Int32) (A1 : Nat → Nat → Int32) (f2 : Nat → Int32) (A2 : Nat → Nat → Int32) (f3 : Nat → Int32) (A3 : Nat → Nat → Int32) (fB4 : Nat → Nat → Int32) (AB4 : Nat → Nat → Nat → Int32) (f5 : Nat → Int32) (A5 : Nat → Nat → Int32) (f6 : Nat → Int32) (A6 : Nat → Nat → Int32) (p1 : Int32) : ∀ {r : Int32 × (Nat → Nat → Int32) × (Nat → Int32) × (Nat → Nat → Int32) × (Nat → Int32) × (Nat → Nat → Int32) × (Nat → Int32)}, f9_seen f0 A0 f1 A1 f2 A2 f3 A3 fB4 AB4 f5 A5 f6 A6 p1 = some r → CtrI l yX9_seen cX9_seen 4 (some .int) rmX9_seen G [.ref h0, .int p1] (wX9 G h0 a0 wk f0 A0 ++ (wX1 G (a0 1) a1 f1 A1 ++ (wX6 G (a0 2) a2 f2 A2 ++ (wX6 G (a0 3) a3 f3 A3 ++ (wB G (a0 5) g4 aB4 fB4 AB4 ++ (wX5 G (a0 6) a5 f5 A5 ++ (wX2 G (a0 11) a6 f6 A6))))))) r.1 (wX9 G h0 a0 wk f0 A0 ++ (wX1 G (a0 1) a1 f1 A1 ++ (wX6 G (a0 2) a2 f2 A2 ++ (wX6 G (a0 3) a3 r.2.2.1 r.2.1 ++ (wB G (a0 5) g4 aB4 fB4 AB4 ++ (wX5 G (a0 6) a5 r.2.2.2.2.1 r.2.2.2.1 ++ (wX2 G (a0 11) a6 r.2.2.2.2.2.2 r.2.2.2.2.2.1))))))) := by
  intro res h
  refine ctrI_of (cc := cX9_seen) (maxL := 4) (ret := (some .int)) (by decide +kernel) rfl (Nat.le_of_ble_eq_true rfl) (fun p e s m below meth c DA C0 hP hD ls hl => ?_)
  have hPD : WD G DA (wX9 G h0 a0 wk f0 A0 ++ (wX1 G (a0 1) a1 f1 A1 ++ (wX6 G (a0 2) a2 f2 A2 ++ (wX6 G (a0 3) a3 f3 A3 ++ (wB G (a0 5) g4 aB4 fB4 AB4 ++ (wX5 G (a0 6) a5 f5 A5 ++ (wX2 G (a0 11) a6 f6 A6))))))) s.heap := ⟨hP, hD⟩
  have hS : va_S DA s.heap s.heap [] := va_S.rf
  have hl : lv_has ls 4 [(0, .ref h0), (1, .int p1)] := hl
  obtain ⟨hx, hb, hml, hown, hts⟩ := C0.1
  have hK := C0.2.2.2.1
  unfold f9_seen at h
  refine lv_iload_n hx hb dX9_seen_0 rfl (lv_at hl 1 rfl) ?_
  obtain ⟨q_1, hq_1, h⟩ := ob2 h
  refine kSI (As := [.int p1]) (rest := []) C0 (kt_X9_isHours l G  p1 hq_1) gi_S_X9_165_X9_isHours (n := 1) rfl (by decide +kernel) ⟨rfl, rfl, Nat.le_of_ble_eq_true rfl, Nat.le_of_ble_eq_true rfl⟩ hPD hS [] [0, 1, 2, 3, 4, 5, 6, 7, 8, 9, 10, 11, 12, 13, 14, 15, 16, 17, 18, 19, 20, 21, 22, 23, 24, 25, 26, 27, 28, 29, 30, 31, 32, 33, 34, 35, 36, 37, 38, 39, 40, 41, 42, 43, 44, 45] [0, 1, 2, 3, 4, 5, 6, 7, 8, 9, 10, 11, 12, 13, 14, 15, 16, 17, 18, 19, 20, 21, 22, 23, 24, 25, 26, 27, 28, 29, 30, 31, 32, 33, 34, 35, 36, 37, 38, 39, 40, 41, 42, 43, 44, 45] (wN := (wX9 G h0 a0 wk f0 A0 ++ (wX1 G (a0 1) a1 f1 A1 ++ (wX6 G (a0 2) a2 f2 A2 ++ (wX6 G (a0 3) a3 f3 A3 ++ (wB G (a0 5) g4 aB4 fB4 AB4 ++ (wX5 G (a0 6) a5 f5 A5 ++ (wX2 G (a0 11) a6 f6 A6)))))))) rfl rfl rfl rfl rfl hl.1 (Nat.le_of_ble_eq_true rfl) dX9_seen_1 (fun H locs hPD hS => ?_)
  refine lv_if_ne (tgt := 9) hx hb dX9_seen_4 (by decide) (fun cc1 => ?_) (fun cc1 => ?_)
  · have h := (if_neg cc1).symm.trans h
    refine lv_iconst (v := 0) hx hb dX9_seen_9 (by decide) ?_
    refine lv_istore_n (lv' := [(2, .int 0), (0, .ref h0), (1, .int p1)]) hx hb dX9_seen_10 rfl hl (by decide) rfl (fun ls hl => ?_)
    refine lv_aload_n hx hb dX9_seen_11 rfl (lv_at hl 1 rfl) ?_
    refine va_get (D := G.1) (ci := 9) (v := .ref (a0 3)) (C := RX9) (T := TX9) (N := 15) hx hb hts inlX9 hown hK hPD.1 0 rfl rfl 3 (by decide) (hts _ gw_427) (fun _ h9 => h9) rfl dX9_seen_12 ?_
    refine lv_aload_n hx hb dX9_seen_15 rfl (lv_at hl 1 rfl) ?_
    refine va_get (D := G.1) (ci := 9) (v := .ref (a0 2)) (C := RX9) (T := TX9) (N := 15) hx hb hts inlX9 hown hK hPD.1 0 rfl rfl 2 (by decide) (hts _ gw_356) (fun _ h9 => h9) rfl dX9_seen_16 ?_
    obtain ⟨q_2, hq_2, h⟩ := ob2 h
    refine kVV (As := [.ref (a0 2)]) (rest := []) C0 (kt_X6_copy l G (a0 3) a3 (a0 2) a2 f3 A3 f2 A2 hq_2) gi_V_X9_178_X6_copy (n := 1) rfl (by decide +kernel) rfl ⟨rfl, rfl, Nat.le_of_ble_eq_true rfl, Nat.le_of_ble_eq_true rfl⟩ hPD hS 12 6 rfl rfl rfl [12, 13, 14, 15, 16, 17, 6, 7, 8, 9, 10, 11] [0, 1, 2, 3, 4, 5, 18, 19, 20, 21, 22, 23, 24, 25, 26, 27, 28, 29, 30, 31, 32, 33, 34, 35, 36, 37, 38, 39, 40, 41, 42, 43, 44, 45] [0, 1, 2, 3, 4, 5, 40, 41, 42, 43, 44, 45, 34, 35, 36, 37, 38, 39, 6, 7, 8, 9, 10, 11, 12, 13, 14, 15, 16, 17, 18, 19, 20, 21, 22, 23, 24, 25, 26, 27, 28, 29, 30, 31, 32, 33] (wN := (wX9 G h0 a0 wk f0 A0 ++ (wX1 G (a0 1) a1 f1 A1 ++ (wX6 G (a0 2) a2 f2 A2 ++ (wX6 G (a0 3) a3 q_2.2 q_2.1 ++ (wB G (a0 5) g4 aB4 fB4 AB4 ++ (wX5 G (a0 6) a5 f5 A5 ++ (wX2 G (a0 11) a6 f6 A6)))))))) rfl rfl rfl rfl rfl hl.1 (Nat.le_of_ble_eq_true rfl) dX9_seen_19 (fun H locs hPD hS => ?_)
    refine lv_iconst (v := 0) hx hb dX9_seen_22 (by decide) ?_
    refine lv_istore_n (lv' := [(3, .int 0), (2, .int 0), (0, .ref h0), (1, .int p1)]) hx hb dX9_seen_23 rfl hl (by decide) rfl (fun ls hl => ?_)
    exact ww_f9_seen_l24 C0 NF q_2.1 q_2.2 A5 f5 A6 f6 0 0 h _ _ _ hPD hS (lv_sub hl [2, 3, 1, 0] rfl)
  · have h := (if_pos cc1).symm.trans h
    refine lv_iconst (v := (-1)) hx hb dX9_seen_7 (by decide) ?_
    obtain rfl := Option.some.inj h
    exact eI C0 hPD.1 hPD.2 hS rfl dX9_seen_8
abbrev rmX9_quiet : Room := { frames := 7, cells := 0, slots := 0, locals := 159 }
set_option maxRecDepth 100000 in
set_option maxHeartbeats 4000000 in
theorem ww_f9_quiet_b61  (C0 : Cx cX9_quiet 5 (some .int) RX9 p s m args meth c G DA) {h0 : Nat} {a0 : Nat → Nat} {wk : Option Nat} {a1 : Nat → Nat} {a2 : Nat → Nat} {a3 : Nat → Nat} {g4 : Nat → Nat} {aB4 : Nat → Nat → Nat} {a5 : Nat → Nat} {a6 : Nat → Nat} {f0 : Nat → Int32} {A0 : Nat → Nat → Int32} {f1 : Nat → Int32} {A1 : Nat → Nat → Int32} {f2 : Nat → Int32} {A2 : Nat → Nat → Int32} {fB4 : Nat → Nat → Int32} {AB4 : Nat → Nat → Nat → Int32} {p1 : Int32}  {k27 : (Nat → Nat → Int32) → (Nat → Int32) → (Nat → Nat → Int32) → (Nat → Int32) → (Nat → Nat → Int32) → (Nat → Int32) → Int32 → Int32 → Int32 → Option (Int32 × (Nat → Nat → Int32) × (Nat → Int32) × (Nat → Nat → Int32) × (Nat → Int32) × (Nat → Nat → Int32) × (Nat → Int32))} {res : Int32 × (Nat → Nat → Int32) × (Nat → Int32) × (Nat → Nat → Int32) × (Nat → Int32) × (Nat → Nat → Int32) × (Nat → Int32)} (hk27 : ∀ (A3 : Nat → Nat → Int32) (f3 : Nat → Int32) (A5 : Nat → Nat → Int32) (f5 : Nat → Int32) (A6 : Nat → Nat → Int32) (f6 : Nat → Int32) (l2 : Int32) (l3 : Int32) (l4 : Int32), k27 A3 f3 A5 f5 A6 f6 l2 l3 l4 = some res → ∀ (H : Heap) (locs : List Loc) (ls : Array Slot), WD G DA (wX9 G h0 a0 wk f0 A0 ++ (wX1 G (a0 1) a1 f1 A1 ++ (wX6 G (a0 2) a2 f2 A2 ++ (wX6 G (a0 3) a3 f3 A3 ++ (wB G (a0 5) g4 aB4 fB4 AB4 ++ (wX5 G (a0 6) a5 f5 A5 ++ (wX2 G (a0 11) a6 f6 A6))))))) H → va_S DA s.heap H locs → lv_has ls 5 [(0, .ref h0), (1, .int p1), (2, .int l2), (3, .int l3), (4, .int l4)] → W p l e rmX9_quiet s m args below meth c H locs 0 0 (MQ below (QI G DA res.1 (wX9 G h0 a0 wk f0 A0 ++ (wX1 G (a0 1) a1 f1 A1 ++ (wX6 G (a0 2) a2 f2 A2 ++ (wX6 G (a0 3) a3 res.2.2.1 res.2.1 ++ (wB G (a0 5) g4 aB4 fB4 AB4 ++ (wX5 G (a0 6) a5 res.2.2.2.2.1 res.2.2.2.1 ++ (wX2 G (a0 11) a6 res.2.2.2.2.2.2 res.2.2.2.2.2.1)))))))) args s 0 0 DA) (F0 m 27 ls [])) : ∀ (A3 : Nat → Nat → Int32) (f3 : Nat → Int32) (A5 : Nat → Nat → Int32) (f5 : Nat → Int32) (A6 : Nat → Nat → Int32) (f6 : Nat → Int32) (l2 : Int32) (l4 : Int32) (s0 : Int32), f9_quiet_b61 f0 A0 f1 A1 f2 A2 fB4 AB4 p1 k27 A3 f3 A5 f5 A6 f6 l2 l4 s0 = some res → ∀ (H : Heap) (locs : List Loc) (ls : Array Slot), WD G DA (wX9 G h0 a0 wk f0 A0 ++ (wX1 G (a0 1) a1 f1 A1 ++ (wX6 G (a0 2) a2 f2 A2 ++ (wX6 G (a0 3) a3 f3 A3 ++ (wB G (a0 5) g4 aB4 fB4 AB4 ++ (wX5 G (a0 6) a5 f5 A5 ++ (wX2 G (a0 11) a6 f6 A6))))))) H → va_S DA s.heap H locs → lv_has ls 5 [(0, .ref h0), (1, .int p1), (2, .int l2), (4, .int l4)] → W p l e rmX9_quiet s m args below meth c H locs 0 0 (MQ below (QI G DA res.1 (wX9 G h0 a0 wk f0 A0 ++ (wX1 G (a0 1) a1 f1 A1 ++ (wX6 G (a0 2) a2 f2 A2 ++ (wX6 G (a0 3) a3 res.2.2.1 res.2.1 ++ (wB G (a0 5) g4 aB4 fB4 AB4 ++ (wX5 G (a0 6) a5 res.2.2.2.2.1 res.2.2.2.1 ++ (wX2 G (a0 11) a6 res.2.2.2.2.2.2 res.2.2.2.2.2.1)))))))) args s 0 0 DA) (F0 m 61 ls [.int s0]) := by
  obtain ⟨hx, hb, hml, hown, hts⟩ := C0.1
  have hK := C0.2.2.2.1
  intro A3 f3 A5 f5 A6 f6 l2 l4 s0 h _ _ _ hPD hS hl
  unfold f9_quiet_b61 at h
  refine lv_istore_n (lv' := [(3, .int s0), (0, .ref h0), (1, .int p1), (2, .int l2), (4, .int l4)]) hx hb dX9_quiet_61 rfl hl (by decide) rfl (fun ls hl => ?_)
  refine lv_iload_n hx hb dX9_quiet_62 rfl (lv_at hl 3 rfl) ?_
  refine lv_iload_n hx hb dX9_quiet_63 rfl (lv_at hl 0 rfl) ?_
  refine va_mmax hx hb (hml.trans hl.1.symm) hown (hts _ gw_211) (hts _ gw_212) (hts _ gw_209) (hts _ gw_213) (Nat.le_of_ble_eq_true rfl) (Nat.le_of_ble_eq_true rfl) (Nat.zero_le _) (Nat.zero_le _) dX9_quiet_64 ?_
  refine lv_istore_n (lv' := [(2, .int (imax l2 s0)), (3, .int s0), (0, .ref h0), (1, .int p1), (4, .int l4)]) hx hb dX9_quiet_67 rfl hl (by decide) rfl (fun ls hl => ?_)
  refine lv_iinc (v := l4 + 1) (lv' := [(4, .int (l4 + 1)), (2, .int (imax l2 s0)), (3, .int s0), (0, .ref h0), (1, .int p1)]) hx hb dX9_quiet_68 hl (k := 4) rfl rfl (by decide) rfl (fun ls hl => ?_)
  refine lv_goto (tgt := 27) hx hb dX9_quiet_71 (by decide) ?_
  exact hk27 A3 f3 A5 f5 A6 f6 (imax l2 s0) s0 (l4 + 1) h _ _ _ hPD hS (lv_sub hl [3, 4, 1, 2, 0] rfl)
set_option maxRecDepth 100000 in
set_option maxHeartbeats 4000000 in
theorem ww_f9_quiet_b27  (C0 : Cx cX9_quiet 5 (some .int) RX9 p s m args meth c G DA) {h0 : Nat} {a0 : Nat → Nat} {wk : Option Nat} {a1 : Nat → Nat} {a2 : Nat → Nat} {a3 : Nat → Nat} {g4 : Nat → Nat} {aB4 : Nat → Nat → Nat} {a5 : Nat → Nat} {a6 : Nat → Nat} {f0 : Nat → Int32} {A0 : Nat → Nat → Int32} {f1 : Nat → Int32} {A1 : Nat → Nat → Int32} {f2 : Nat → Int32} {A2 : Nat → Nat → Int32} {fB4 : Nat → Nat → Int32} {AB4 : Nat → Nat → Nat → Int32} {p1 : Int32}  {k27 : (Nat → Nat → Int32) → (Nat → Int32) → (Nat → Nat → Int32) → (Nat → Int32) → (Nat → Nat → Int32) → (Nat → Int32) → Int32 → Int32 → Int32 → Option (Int32 × (Nat → Nat → Int32) × (Nat → Int32) × (Nat → Nat → Int32) × (Nat → Int32) × (Nat → Nat → Int32) × (Nat → Int32))} {res : Int32 × (Nat → Nat → Int32) × (Nat → Int32) × (Nat → Nat → Int32) × (Nat → Int32) × (Nat → Nat → Int32) × (Nat → Int32)}  (hk27 : ∀ (A3 : Nat → Nat → Int32) (f3 : Nat → Int32) (A5 : Nat → Nat → Int32) (f5 : Nat → Int32) (A6 : Nat → Nat → Int32) (f6 : Nat → Int32) (l2 : Int32) (l3 : Int32) (l4 : Int32), k27 A3 f3 A5 f5 A6 f6 l2 l3 l4 = some res → ∀ (H : Heap) (locs : List Loc) (ls : Array Slot), WD G DA (wX9 G h0 a0 wk f0 A0 ++ (wX1 G (a0 1) a1 f1 A1 ++ (wX6 G (a0 2) a2 f2 A2 ++ (wX6 G (a0 3) a3 f3 A3 ++ (wB G (a0 5) g4 aB4 fB4 AB4 ++ (wX5 G (a0 6) a5 f5 A5 ++ (wX2 G (a0 11) a6 f6 A6))))))) H → va_S DA s.heap H locs → lv_has ls 5 [(0, .ref h0), (1, .int p1), (2, .int l2), (3, .int l3), (4, .int l4)] → W p l e rmX9_quiet s m args below meth c H locs 0 0 (MQ below (QI G DA res.1 (wX9 G h0 a0 wk f0 A0 ++ (wX1 G (a0 1) a1 f1 A1 ++ (wX6 G (a0 2) a2 f2 A2 ++ (wX6 G (a0 3) a3 res.2.2.1 res.2.1 ++ (wB G (a0 5) g4 aB4 fB4 AB4 ++ (wX5 G (a0 6) a5 res.2.2.2.2.1 res.2.2.2.1 ++ (wX2 G (a0 11) a6 res.2.2.2.2.2.2 res.2.2.2.2.2.1)))))))) args s 0 0 DA) (F0 m 27 ls [])) : ∀ (A3 : Nat → Nat → Int32) (f3 : Nat → Int32) (A5 : Nat → Nat → Int32) (f5 : Nat → Int32) (A6 : Nat → Nat → Int32) (f6 : Nat → Int32) (l2 : Int32) (l3 : Int32) (l4 : Int32), f9_quiet_b27 f0 A0 f1 A1 f2 A2 fB4 AB4 p1  k27 A3 f3 A5 f5 A6 f6 l2 l3 l4 = some res → ∀ (H : Heap) (locs : List Loc) (ls : Array Slot), WD G DA (wX9 G h0 a0 wk f0 A0 ++ (wX1 G (a0 1) a1 f1 A1 ++ (wX6 G (a0 2) a2 f2 A2 ++ (wX6 G (a0 3) a3 f3 A3 ++ (wB G (a0 5) g4 aB4 fB4 AB4 ++ (wX5 G (a0 6) a5 f5 A5 ++ (wX2 G (a0 11) a6 f6 A6))))))) H → va_S DA s.heap H locs → lv_has ls 5 [(0, .ref h0), (1, .int p1), (2, .int l2), (3, .int l3), (4, .int l4)] → W p l e rmX9_quiet s m args below meth c H locs 0 0 (MQ below (QI G DA res.1 (wX9 G h0 a0 wk f0 A0 ++ (wX1 G (a0 1) a1 f1 A1 ++ (wX6 G (a0 2) a2 f2 A2 ++ (wX6 G (a0 3) a3 res.2.2.1 res.2.1 ++ (wB G (a0 5) g4 aB4 fB4 AB4 ++ (wX5 G (a0 6) a5 res.2.2.2.2.1 res.2.2.2.1 ++ (wX2 G (a0 11) a6 res.2.2.2.2.2.2 res.2.2.2.2.2.1)))))))) args s 0 0 DA) (F0 m 27 ls []) := by
  obtain ⟨hx, hb, hml, hown, hts⟩ := C0.1
  have hK := C0.2.2.2.1
  intro A3 f3 A5 f5 A6 f6 l2 l3 l4 h _ _ _ hPD hS hl
  unfold f9_quiet_b27 at h
  refine lv_iload hx hb dX9_quiet_27 (lv_at hl 4 rfl) ?_
  refine lv_iload_n hx hb dX9_quiet_29 rfl (lv_at hl 1 rfl) ?_
  refine lv_icmp_ge (tgt := 74) hx hb dX9_quiet_30 (by decide) (fun cc1 => ?_) (fun cc1 => ?_)
  · have h := (if_pos cc1).symm.trans h
    refine lv_iload_n hx hb dX9_quiet_74 rfl (lv_at hl 2 rfl) ?_
    obtain rfl := Option.some.inj h
    exact eI C0 hPD.1 hPD.2 hS rfl dX9_quiet_75
  · have h := (if_neg cc1).symm.trans h
    refine lv_aload_n hx hb dX9_quiet_33 rfl (lv_at hl 0 rfl) ?_
    refine lv_aload_n hx hb dX9_quiet_34 rfl (lv_at hl 0 rfl) ?_
    refine va_get (D := G.1) (ci := 9) (v := .ref (a0 3)) (C := RX9) (T := TX9) (N := 15) hx hb hts inlX9 hown hK hPD.1 0 rfl rfl 3 (by decide) (hts _ gw_427) (fun _ h9 => h9) rfl dX9_quiet_35 ?_
    obtain ⟨q_3, hq_3, h⟩ := ob2 h
    refine kVI (As := [.ref (a0 3)]) (rest := []) C0 (kt_X9_passes l G h0 a0 wk a1 g4 aB4 a5 a6 (a0 3) a3 f0 A0 f1 A1 fB4 AB4 f5 A5 f6 A6 f3 A3 hq_3) gi_V_X9_168_X9_passes (n := 1) rfl (by decide +kernel) rfl ⟨rfl, rfl, Nat.le_of_ble_eq_true rfl, Nat.le_of_ble_eq_true rfl⟩ hPD hS 0 9 rfl rfl rfl [0, 1, 2, 3, 4, 5, 18, 19, 20, 21, 22, 23, 24, 25, 26, 27, 28, 29, 30, 31, 32, 33, 34, 35, 36, 37, 38, 39, 40, 41, 42, 43, 44, 45, 12, 13, 14, 15, 16, 17] [6, 7, 8, 9, 10, 11] [6, 7, 8, 9, 10, 11, 0, 1, 2, 3, 4, 5, 40, 41, 42, 43, 44, 45, 12, 13, 14, 15, 16, 17, 18, 19, 20, 21, 22, 23, 24, 25, 26, 27, 28, 29, 30, 31, 32, 33, 34, 35, 36, 37, 38, 39] (wN := (wX9 G h0 a0 wk f0 A0 ++ (wX1 G (a0 1) a1 f1 A1 ++ (wX6 G (a0 2) a2 f2 A2 ++ (wX6 G (a0 3) a3 q_3.2.2.2.2.2.2 q_3.2.2.2.2.2.1 ++ (wB G (a0 5) g4 aB4 fB4 AB4 ++ (wX5 G (a0 6) a5 q_3.2.2.1 q_3.2.1 ++ (wX2 G (a0 11) a6 q_3.2.2.2.2.1 q_3.2.2.2.1)))))))) rfl rfl rfl rfl rfl hl.1 (Nat.le_of_ble_eq_true rfl) dX9_quiet_38 (fun H locs hPD hS => ?_)
    refine lv_if_eq (tgt := 74) hx hb dX9_quiet_41 (by decide) (fun cc1 => ?_) (fun cc1 => ?_)
    · have h := (if_pos cc1).symm.trans h
      refine lv_iload_n hx hb dX9_quiet_74 rfl (lv_at hl 2 rfl) ?_
      obtain rfl := Option.some.inj h
      exact eI C0 hPD.1 hPD.2 hS rfl dX9_quiet_75
    · have h := (if_neg cc1).symm.trans h
      refine lv_aload_n hx hb dX9_quiet_44 rfl (lv_at hl 0 rfl) ?_
      refine va_get (D := G.1) (ci := 9) (v := .ref (a0 6)) (C := RX9) (T := TX9) (N := 15) hx hb hts inlX9 hown hK hPD.1 0 rfl rfl 6 (by decide) (hts _ gw_409) (fun _ h9 => h9) rfl dX9_quiet_45 ?_
      refine va_get (D := G.1) (ci := 5) (v := .int (q_3.2.2.1 2)) (C := RX5) (T := TX5) (N := 4) hx hb hts inlX5 hown hK hPD.1 35 rfl rfl 2 (by decide) (hts _ gw_421) (fun _ h9 => h9) rfl dX9_quiet_48 ?_
      refine lv_if_ne (tgt := 60) hx hb dX9_quiet_51 (by decide) (fun cc1 => ?_) (fun cc1 => ?_)
      · have h := (if_neg cc1).symm.trans h
        refine lv_iconst (v := 0) hx hb dX9_quiet_60 (by decide) ?_
        exact ww_f9_quiet_b61 C0 hk27 q_3.2.2.2.2.2.1 q_3.2.2.2.2.2.2 q_3.2.1 q_3.2.2.1 q_3.2.2.2.1 q_3.2.2.2.2.1 l2 l4 0 h _ _ _ hPD hS (lv_sub hl [0, 1, 2, 4] rfl)
      · have h := (if_pos cc1).symm.trans h
        refine lv_iload_n hx hb dX9_quiet_54 rfl (lv_at hl 3 rfl) ?_
        refine lv_iconst (v := 1) hx hb dX9_quiet_55 (by decide) ?_
        refine lv_iadd hx hb dX9_quiet_56 ?_
        refine lv_goto (tgt := 61) hx hb dX9_quiet_57 (by decide) ?_
        exact ww_f9_quiet_b61 C0 hk27 q_3.2.2.2.2.2.1 q_3.2.2.2.2.2.2 q_3.2.1 q_3.2.2.1 q_3.2.2.2.1 q_3.2.2.2.2.1 l2 l4 (l3 + 1) h _ _ _ hPD hS (lv_sub hl [0, 1, 2, 4] rfl)
set_option maxRecDepth 100000 in
set_option maxHeartbeats 4000000 in
theorem ww_f9_quiet_l27  (C0 : Cx cX9_quiet 5 (some .int) RX9 p s m args meth c G DA) {h0 : Nat} {a0 : Nat → Nat} {wk : Option Nat} {a1 : Nat → Nat} {a2 : Nat → Nat} {a3 : Nat → Nat} {g4 : Nat → Nat} {aB4 : Nat → Nat → Nat} {a5 : Nat → Nat} {a6 : Nat → Nat} {f0 : Nat → Int32} {A0 : Nat → Nat → Int32} {f1 : Nat → Int32} {A1 : Nat → Nat → Int32} {f2 : Nat → Int32} {A2 : Nat → Nat → Int32} {fB4 : Nat → Nat → Int32} {AB4 : Nat → Nat → Nat → Int32} {p1 : Int32}   {res : Int32 × (Nat → Nat → Int32) × (Nat → Int32) × (Nat → Nat → Int32) × (Nat → Int32) × (Nat → Nat → Int32) × (Nat → Int32)}  : ∀ (n : Nat) (A3 : Nat → Nat → Int32) (f3 : Nat → Int32) (A5 : Nat → Nat → Int32) (f5 : Nat → Int32) (A6 : Nat → Nat → Int32) (f6 : Nat → Int32) (l2 : Int32) (l3 : Int32) (l4 : Int32), f9_quiet_l27 f0 A0 f1 A1 f2 A2 fB4 AB4 p1  n A3 f3 A5 f5 A6 f6 l2 l3 l4 = some res → ∀ (H : Heap) (locs : List Loc) (ls : Array Slot), WD G DA (wX9 G h0 a0 wk f0 A0 ++ (wX1 G (a0 1) a1 f1 A1 ++ (wX6 G (a0 2) a2 f2 A2 ++ (wX6 G (a0 3) a3 f3 A3 ++ (wB G (a0 5) g4 aB4 fB4 AB4 ++ (wX5 G (a0 6) a5 f5 A5 ++ (wX2 G (a0 11) a6 f6 A6))))))) H → va_S DA s.heap H locs → lv_has ls 5 [(0, .ref h0), (1, .int p1), (2, .int l2), (3, .int l3), (4, .int l4)] → W p l e rmX9_quiet s m args below meth c H locs 0 0 (MQ below (QI G DA res.1 (wX9 G h0 a0 wk f0 A0 ++ (wX1 G (a0 1) a1 f1 A1 ++ (wX6 G (a0 2) a2 f2 A2 ++ (wX6 G (a0 3) a3 res.2.2.1 res.2.1 ++ (wB G (a0 5) g4 aB4 fB4 AB4 ++ (wX5 G (a0 6) a5 res.2.2.2.2.1 res.2.2.2.1 ++ (wX2 G (a0 11) a6 res.2.2.2.2.2.2 res.2.2.2.2.2.1)))))))) args s 0 0 DA) (F0 m 27 ls []) := by
  intro n
  induction n with
  | zero => intro A3 f3 A5 f5 A6 f6 l2 l3 l4 h; cases h
  | succ n ih => intro A3 f3 A5 f5 A6 f6 l2 l3 l4 h; exact ww_f9_quiet_b27 C0  ih A3 f3 A5 f5 A6 f6 l2 l3 l4 h
set_option maxRecDepth 100000 in
set_option maxHeartbeats 4000000 in
theorem kt_X9_quiet (l : Launch) (G : Gp) (h0 : Nat) (a0 : Nat → Nat) (wk : Option Nat) (a1 : Nat → Nat) (a2 : Nat → Nat) (a3 : Nat → Nat) (g4 : Nat → Nat) (aB4 : Nat → Nat → Nat) (a5 : Nat → Nat) (a6 : Nat → Nat) (f0 : Nat → Int32) (A0 : Nat → Nat → Int32) (f1 : Nat → Int32) (A1 : Nat → Nat → Int32) (f2 : Nat → Int32) (A2 : Nat → Nat → Int32) (f3 : Nat → Int32) (A3 : Nat → Nat → Int32) (fB4 : Nat → Nat → Int32) (AB4 : Nat → Nat → Nat → Int32) (f5 : Nat → Int32) (A5 : Nat → Nat → Int32) (f6 : Nat → Int32) (A6 : Nat → Nat → Int32) (p1 : Int32) : ∀ {r : Int32 × (Nat → Nat → Int32) × (Nat → Int32) × (Nat → Nat → Int32) × (Nat → Int32) × (Nat → Nat → Int32) × (Nat → Int32)}, f9_quiet f0 A0 f1 A1 f2 A2 f3 A3 fB4 AB4 f5 A5 f6 A6 p1 = some r → CtrI l yX9_quiet cX9_quiet 5 (some .int) rmX9_quiet G [.ref h0, .int p1] (wX9 G h0 a0 wk f0 A0 ++ (wX1 G (a0 1) a1 f1 A1 ++ (wX6 G (a0 2) a2 f2 A2 ++ (wX6 G (a0 3) a3 f3 A3 ++ (wB G (a0 5) g4 aB4 fB4 AB4 ++ (wX5 G (a0 6) a5 f5 A5 ++ (wX2 G (a0 11) a6 f6 A6))))))) r.1 (wX9 G h0 a0 wk f0 A0 ++ (wX1 G (a0 1) a1 f1 A1 ++ (wX6 G (a0 2) a2 f2 A2 ++ (wX6 G (a0 3) a3 r.2.2.1 r.2.1 ++ (wB G (a0 5) g4 aB4 fB4 AB4 ++ (wX5 G (a0 6) a5 r.2.2.2.2.1 r.2.2.2.1 ++ (wX2 G (a0 11) a6 r.2.2.2.2.2.2 r.2.2.2.2.2.1))))))) := by
  intro res h
  refine ctrI_of (cc := cX9_quiet) (maxL := 5) (ret := (some .int)) (by decide +kernel) rfl (Nat.le_of_ble_eq_true rfl) (fun p e s m below meth c DA C0 hP hD ls hl => ?_)
  have hPD : WD G DA (wX9 G h0 a0 wk f0 A0 ++ (wX1 G (a0 1) a1 f1 A1 ++ (wX6 G (a0 2) a2 f2 A2 ++ (wX6 G (a0 3) a3 f3 A3 ++ (wB G (a0 5) g4 aB4 fB4 AB4 ++ (wX5 G (a0 6) a5 f5 A5 ++ (wX2 G (a0 11) a6 f6 A6))))))) s.heap := ⟨hP, hD⟩
  have hS : va_S DA s.heap s.heap [] := va_S.rf
  have hl : lv_has ls 5 [(0, .ref h0), (1, .int p1)] := hl
  obtain ⟨hx, hb, hml, hown, hts⟩ := C0.1
  have hK := C0.2.2.2.1
  unfold f9_quiet at h
  refine lv_iload_n hx hb dX9_quiet_0 rfl (lv_at hl 1 rfl) ?_
  obtain ⟨q_1, hq_1, h⟩ := ob2 h
  refine kSI (As := [.int p1]) (rest := []) C0 (kt_X9_isHours l G  p1 hq_1) gi_S_X9_165_X9_isHours (n := 1) rfl (by decide +kernel) ⟨rfl, rfl, Nat.le_of_ble_eq_true rfl, Nat.le_of_ble_eq_true rfl⟩ hPD hS [] [0, 1, 2, 3, 4, 5, 6, 7, 8, 9, 10, 11, 12, 13, 14, 15, 16, 17, 18, 19, 20, 21, 22, 23, 24, 25, 26, 27, 28, 29, 30, 31, 32, 33, 34, 35, 36, 37, 38, 39, 40, 41, 42, 43, 44, 45] [0, 1, 2, 3, 4, 5, 6, 7, 8, 9, 10, 11, 12, 13, 14, 15, 16, 17, 18, 19, 20, 21, 22, 23, 24, 25, 26, 27, 28, 29, 30, 31, 32, 33, 34, 35, 36, 37, 38, 39, 40, 41, 42, 43, 44, 45] (wN := (wX9 G h0 a0 wk f0 A0 ++ (wX1 G (a0 1) a1 f1 A1 ++ (wX6 G (a0 2) a2 f2 A2 ++ (wX6 G (a0 3) a3 f3 A3 ++ (wB G (a0 5) g4 aB4 fB4 AB4 ++ (wX5 G (a0 6) a5 f5 A5 ++ (wX2 G (a0 11) a6 f6 A6)))))))) rfl rfl rfl rfl rfl hl.1 (Nat.le_of_ble_eq_true rfl) dX9_quiet_1 (fun H locs hPD hS => ?_)
  refine lv_if_ne (tgt := 9) hx hb dX9_quiet_4 (by decide) (fun cc1 => ?_) (fun cc1 => ?_)
  · have h := (if_neg cc1).symm.trans h
    refine lv_iconst (v := 0) hx hb dX9_quiet_9 (by decide) ?_
    refine lv_istore_n (lv' := [(2, .int 0), (0, .ref h0), (1, .int p1)]) hx hb dX9_quiet_10 rfl hl (by decide) rfl (fun ls hl => ?_)
    refine lv_iconst (v := 0) hx hb dX9_quiet_11 (by decide) ?_
    refine lv_istore_n (lv' := [(3, .int 0), (2, .int 0), (0, .ref h0), (1, .int p1)]) hx hb dX9_quiet_12 rfl hl (by decide) rfl (fun ls hl => ?_)
    refine lv_aload_n hx hb dX9_quiet_13 rfl (lv_at hl 2 rfl) ?_
    refine va_get (D := G.1) (ci := 9) (v := .ref (a0 3)) (C := RX9) (T := TX9) (N := 15) hx hb hts inlX9 hown hK hPD.1 0 rfl rfl 3 (by decide) (hts _ gw_427) (fun _ h9 => h9) rfl dX9_quiet_14 ?_
    refine lv_aload_n hx hb dX9_quiet_17 rfl (lv_at hl 2 rfl) ?_
    refine va_get (D := G.1) (ci := 9) (v := .ref (a0 2)) (C := RX9) (T := TX9) (N := 15) hx hb hts inlX9 hown hK hPD.1 0 rfl rfl 2 (by decide) (hts _ gw_356) (fun _ h9 => h9) rfl dX9_quiet_18 ?_
    obtain ⟨q_2, hq_2, h⟩ := ob2 h
    refine kVV (As := [.ref (a0 2)]) (rest := []) C0 (kt_X6_copy l G (a0 3) a3 (a0 2) a2 f3 A3 f2 A2 hq_2) gi_V_X9_178_X6_copy (n := 1) rfl (by decide +kernel) rfl ⟨rfl, rfl, Nat.le_of_ble_eq_true rfl, Nat.le_of_ble_eq_true rfl⟩ hPD hS 12 6 rfl rfl rfl [12, 13, 14, 15, 16, 17, 6, 7, 8, 9, 10, 11] [0, 1, 2, 3, 4, 5, 18, 19, 20, 21, 22, 23, 24, 25, 26, 27, 28, 29, 30, 31, 32, 33, 34, 35, 36, 37, 38, 39, 40, 41, 42, 43, 44, 45] [0, 1, 2, 3, 4, 5, 40, 41, 42, 43, 44, 45, 34, 35, 36, 37, 38, 39, 6, 7, 8, 9, 10, 11, 12, 13, 14, 15, 16, 17, 18, 19, 20, 21, 22, 23, 24, 25, 26, 27, 28, 29, 30, 31, 32, 33] (wN := (wX9 G h0 a0 wk f0 A0 ++ (wX1 G (a0 1) a1 f1 A1 ++ (wX6 G (a0 2) a2 f2 A2 ++ (wX6 G (a0 3) a3 q_2.2 q_2.1 ++ (wB G (a0 5) g4 aB4 fB4 AB4 ++ (wX5 G (a0 6) a5 f5 A5 ++ (wX2 G (a0 11) a6 f6 A6)))))))) rfl rfl rfl rfl rfl hl.1 (Nat.le_of_ble_eq_true rfl) dX9_quiet_21 (fun H locs hPD hS => ?_)
    refine lv_iconst (v := 0) hx hb dX9_quiet_24 (by decide) ?_
    refine lv_istore (lv' := [(4, .int 0), (3, .int 0), (2, .int 0), (0, .ref h0), (1, .int p1)]) hx hb dX9_quiet_25 hl (by decide) rfl (fun ls hl => ?_)
    exact ww_f9_quiet_l27 C0 NF q_2.1 q_2.2 A5 f5 A6 f6 0 0 0 h _ _ _ hPD hS (lv_sub hl [3, 4, 2, 1, 0] rfl)
  · have h := (if_pos cc1).symm.trans h
    refine lv_iconst (v := (-1)) hx hb dX9_quiet_7 (by decide) ?_
    obtain rfl := Option.some.inj h
    exact eI C0 hPD.1 hPD.2 hS rfl dX9_quiet_8
abbrev rmX9_placeIs : Room := { frames := 4, cells := 0, slots := 0, locals := 87 }
set_option maxRecDepth 100000 in
set_option maxHeartbeats 4000000 in
theorem kt_X9_placeIs (l : Launch) (G : Gp) (h0 : Nat) (a0 : Nat → Nat) (wk : Option Nat) (a1 : Nat → Nat) (a2 : Nat → Nat) (f0 : Nat → Int32) (A0 : Nat → Nat → Int32) (f1 : Nat → Int32) (A1 : Nat → Nat → Int32) (f2 : Nat → Int32) (A2 : Nat → Nat → Int32) (p1 : Int32) (p2 : Int32) : ∀ {r : Int32}, f9_placeIs f0 A0 f1 A1 f2 A2 p1 p2 = some r → CtrI l yX9_placeIs cX9_placeIs 3 (some .int) rmX9_placeIs G [.ref h0, .int p1, .int p2] (wX9 G h0 a0 wk f0 A0 ++ (wX1 G (a0 1) a1 f1 A1 ++ (wX6 G (a0 2) a2 f2 A2))) r (wX9 G h0 a0 wk f0 A0 ++ (wX1 G (a0 1) a1 f1 A1 ++ (wX6 G (a0 2) a2 f2 A2))) := by
  intro res h
  refine ctrI_of (cc := cX9_placeIs) (maxL := 3) (ret := (some .int)) (by decide +kernel) rfl (Nat.le_of_ble_eq_true rfl) (fun p e s m below meth c DA C0 hP hD ls hl => ?_)
  have hPD : WD G DA (wX9 G h0 a0 wk f0 A0 ++ (wX1 G (a0 1) a1 f1 A1 ++ (wX6 G (a0 2) a2 f2 A2))) s.heap := ⟨hP, hD⟩
  have hS : va_S DA s.heap s.heap [] := va_S.rf
  have hl : lv_has ls 3 [(0, .ref h0), (1, .int p1), (2, .int p2)] := hl
  obtain ⟨hx, hb, hml, hown, hts⟩ := C0.1
  have hK := C0.2.2.2.1
  unfold f9_placeIs at h
  refine lv_aload_n hx hb dX9_placeIs_0 rfl (lv_at hl 0 rfl) ?_
  refine va_get (D := G.1) (ci := 9) (v := .ref (a0 1)) (C := RX9) (T := TX9) (N := 15) hx hb hts inlX9 hown hK hPD.1 0 rfl rfl 1 (by decide) (hts _ gw_354) (fun _ h9 => h9) rfl dX9_placeIs_1 ?_
  refine lv_iload_n hx hb dX9_placeIs_4 rfl (lv_at hl 1 rfl) ?_
  refine kVI (As := [.int p1]) (rest := []) C0 (kt_X1_isTold l G (a0 1) a1 f1 A1 p1) gi_V_X9_108_X1_isTold (n := 1) rfl (by decide +kernel) rfl ⟨rfl, rfl, Nat.le_of_ble_eq_true rfl, Nat.le_of_ble_eq_true rfl⟩ hPD hS 2 1 rfl rfl rfl [2, 3, 4, 5] [0, 1, 6, 7, 8, 9, 10, 11] [0, 1, 8, 9, 10, 11, 2, 3, 4, 5, 6, 7] (wN := (wX9 G h0 a0 wk f0 A0 ++ (wX1 G (a0 1) a1 f1 A1 ++ (wX6 G (a0 2) a2 f2 A2)))) rfl rfl rfl rfl rfl hl.1 (Nat.le_of_ble_eq_true rfl) dX9_placeIs_5 (fun H locs hPD hS => ?_)
  refine lv_if_ne (tgt := 13) hx hb dX9_placeIs_8 (by decide) (fun cc1 => ?_) (fun cc1 => ?_)
  · have h := (if_neg cc1).symm.trans h
    refine lv_iload_n hx hb dX9_placeIs_13 rfl (lv_at hl 2 rfl) ?_
    by_cases cc0 : p2 = 0
    · have h := (if_pos cc0).symm.trans h
      refine lv_swT (tgt := 48) (k := 0) hx hb dX9_placeIs_14 cc0 (by decide) (by decide) ?_
      refine lv_aload_n hx hb dX9_placeIs_48 rfl (lv_at hl 0 rfl) ?_
      refine va_get (D := G.1) (ci := 9) (v := .ref (a0 2)) (C := RX9) (T := TX9) (N := 15) hx hb hts inlX9 hown hK hPD.1 0 rfl rfl 2 (by decide) (hts _ gw_356) (fun _ h9 => h9) rfl dX9_placeIs_49 ?_
      refine va_get (D := G.1) (ci := 6) (v := .ref (a2 0)) (C := RX6) (T := TX6) (N := 10) hx hb hts inlX6 hown hK hPD.1 6 rfl rfl 0 (by decide) (hts _ gw_357) (fun _ h9 => h9) rfl dX9_placeIs_52 ?_
      refine lv_iload_n hx hb dX9_placeIs_55 rfl (lv_at hl 1 rfl) ?_
      refine kSI (As := [.ref (a2 0), .int p1]) (rest := []) C0 (kt_X9_at l G (a2 0) 16 (A2 0) p1 (by decide)) gi_S_X9_188_X9_at (n := 2) rfl (by decide +kernel) ⟨rfl, rfl, Nat.le_of_ble_eq_true rfl, Nat.le_of_ble_eq_true rfl⟩ hPD hS [7] [0, 1, 2, 3, 4, 5, 6, 8, 9, 10, 11] [0, 1, 2, 3, 4, 5, 6, 11, 7, 8, 9, 10] (wN := (wX9 G h0 a0 wk f0 A0 ++ (wX1 G (a0 1) a1 f1 A1 ++ (wX6 G (a0 2) a2 f2 A2)))) rfl rfl rfl rfl rfl hl.1 (Nat.le_of_ble_eq_true rfl) dX9_placeIs_56 (fun H locs hPD hS => ?_)
      obtain rfl := Option.some.inj h
      exact eI C0 hPD.1 hPD.2 hS rfl dX9_placeIs_59
    have h := (if_neg cc0).symm.trans h
    by_cases cc1 : p2 = 1
    · have h := (if_pos cc1).symm.trans h
      refine lv_swT (tgt := 60) (k := 1) hx hb dX9_placeIs_14 cc1 (by decide) (by decide) ?_
      refine lv_aload_n hx hb dX9_placeIs_60 rfl (lv_at hl 0 rfl) ?_
      refine va_get (D := G.1) (ci := 9) (v := .ref (a0 2)) (C := RX9) (T := TX9) (N := 15) hx hb hts inlX9 hown hK hPD.1 0 rfl rfl 2 (by decide) (hts _ gw_356) (fun _ h9 => h9) rfl dX9_placeIs_61 ?_
      refine va_get (D := G.1) (ci := 6) (v := .ref (a2 1)) (C := RX6) (T := TX6) (N := 10) hx hb hts inlX6 hown hK hPD.1 6 rfl rfl 1 (by decide) (hts _ gw_359) (fun _ h9 => h9) rfl dX9_placeIs_64 ?_
      refine lv_iload_n hx hb dX9_placeIs_67 rfl (lv_at hl 1 rfl) ?_
      refine kSI (As := [.ref (a2 1), .int p1]) (rest := []) C0 (kt_X9_at l G (a2 1) 16 (A2 1) p1 (by decide)) gi_S_X9_188_X9_at (n := 2) rfl (by decide +kernel) ⟨rfl, rfl, Nat.le_of_ble_eq_true rfl, Nat.le_of_ble_eq_true rfl⟩ hPD hS [8] [0, 1, 2, 3, 4, 5, 6, 7, 9, 10, 11] [0, 1, 2, 3, 4, 5, 6, 7, 11, 8, 9, 10] (wN := (wX9 G h0 a0 wk f0 A0 ++ (wX1 G (a0 1) a1 f1 A1 ++ (wX6 G (a0 2) a2 f2 A2)))) rfl rfl rfl rfl rfl hl.1 (Nat.le_of_ble_eq_true rfl) dX9_placeIs_68 (fun H locs hPD hS => ?_)
      obtain rfl := Option.some.inj h
      exact eI C0 hPD.1 hPD.2 hS rfl dX9_placeIs_71
    have h := (if_neg cc1).symm.trans h
    by_cases cc2 : p2 = 2
    · have h := (if_pos cc2).symm.trans h
      refine lv_swT (tgt := 72) (k := 2) hx hb dX9_placeIs_14 cc2 (by decide) (by decide) ?_
      refine lv_aload_n hx hb dX9_placeIs_72 rfl (lv_at hl 0 rfl) ?_
      refine va_get (D := G.1) (ci := 9) (v := .ref (a0 2)) (C := RX9) (T := TX9) (N := 15) hx hb hts inlX9 hown hK hPD.1 0 rfl rfl 2 (by decide) (hts _ gw_356) (fun _ h9 => h9) rfl dX9_placeIs_73 ?_
      refine va_get (D := G.1) (ci := 6) (v := .ref (a2 2)) (C := RX6) (T := TX6) (N := 10) hx hb hts inlX6 hown hK hPD.1 6 rfl rfl 2 (by decide) (hts _ gw_432) (fun _ h9 => h9) rfl dX9_placeIs_76 ?_
      refine lv_iload_n hx hb dX9_placeIs_79 rfl (lv_at hl 1 rfl) ?_
      refine kSI (As := [.ref (a2 2), .int p1]) (rest := []) C0 (kt_X9_at l G (a2 2) 16 (A2 2) p1 (by decide)) gi_S_X9_188_X9_at (n := 2) rfl (by decide +kernel) ⟨rfl, rfl, Nat.le_of_ble_eq_true rfl, Nat.le_of_ble_eq_true rfl⟩ hPD hS [9] [0, 1, 2, 3, 4, 5, 6, 7, 8, 10, 11] [0, 1, 2, 3, 4, 5, 6, 7, 8, 11, 9, 10] (wN := (wX9 G h0 a0 wk f0 A0 ++ (wX1 G (a0 1) a1 f1 A1 ++ (wX6 G (a0 2) a2 f2 A2)))) rfl rfl rfl rfl rfl hl.1 (Nat.le_of_ble_eq_true rfl) dX9_placeIs_80 (fun H locs hPD hS => ?_)
      obtain rfl := Option.some.inj h
      exact eI C0 hPD.1 hPD.2 hS rfl dX9_placeIs_83
    have h := (if_neg cc2).symm.trans h
    by_cases cc3 : p2 = 3
    · have h := (if_pos cc3).symm.trans h
      refine lv_swT (tgt := 84) (k := 3) hx hb dX9_placeIs_14 cc3 (by decide) (by decide) ?_
      refine lv_aload_n hx hb dX9_placeIs_84 rfl (lv_at hl 0 rfl) ?_
      refine va_get (D := G.1) (ci := 9) (v := .ref (a0 2)) (C := RX9) (T := TX9) (N := 15) hx hb hts inlX9 hown hK hPD.1 0 rfl rfl 2 (by decide) (hts _ gw_356) (fun _ h9 => h9) rfl dX9_placeIs_85 ?_
      refine lv_iload_n hx hb dX9_placeIs_88 rfl (lv_at hl 1 rfl) ?_
      obtain ⟨q_1, hq_1, h⟩ := ob2 h
      refine kVI (As := [.int p1]) (rest := []) C0 (kt_X6_standAt l G (a0 2) a2 f2 A2 p1 hq_1) gi_V_X9_196_X6_standAt (n := 1) rfl (by decide +kernel) rfl ⟨rfl, rfl, Nat.le_of_ble_eq_true rfl, Nat.le_of_ble_eq_true rfl⟩ hPD hS 6 6 rfl rfl rfl [6, 7, 8, 9, 10, 11] [0, 1, 2, 3, 4, 5] [0, 1, 2, 3, 4, 5, 6, 7, 8, 9, 10, 11] (wN := (wX9 G h0 a0 wk f0 A0 ++ (wX1 G (a0 1) a1 f1 A1 ++ (wX6 G (a0 2) a2 f2 A2)))) rfl rfl rfl rfl rfl hl.1 (Nat.le_of_ble_eq_true rfl) dX9_placeIs_89 (fun H locs hPD hS => ?_)
      obtain rfl := Option.some.inj h
      exact eI C0 hPD.1 hPD.2 hS rfl dX9_placeIs_92
    have h := (if_neg cc3).symm.trans h
    by_cases cc4 : p2 = 4
    · have h := (if_pos cc4).symm.trans h
      refine lv_swT (tgt := 93) (k := 4) hx hb dX9_placeIs_14 cc4 (by decide) (by decide) ?_
      refine lv_aload_n hx hb dX9_placeIs_93 rfl (lv_at hl 0 rfl) ?_
      refine va_get (D := G.1) (ci := 9) (v := .ref (a0 1)) (C := RX9) (T := TX9) (N := 15) hx hb hts inlX9 hown hK hPD.1 0 rfl rfl 1 (by decide) (hts _ gw_354) (fun _ h9 => h9) rfl dX9_placeIs_94 ?_
      refine va_get (D := G.1) (ci := 1) (v := .ref (a1 1)) (C := RX1) (T := TX1) (N := 4) hx hb hts inlX1 hown hK hPD.1 2 rfl rfl 1 (by decide) (hts _ gw_444) (fun _ h9 => h9) rfl dX9_placeIs_97 ?_
      refine lv_iload_n hx hb dX9_placeIs_100 rfl (lv_at hl 1 rfl) ?_
      refine kSI (As := [.ref (a1 1), .int p1]) (rest := []) C0 (kt_X9_at l G (a1 1) 16 (A1 1) p1 (by decide)) gi_S_X9_188_X9_at (n := 2) rfl (by decide +kernel) ⟨rfl, rfl, Nat.le_of_ble_eq_true rfl, Nat.le_of_ble_eq_true rfl⟩ hPD hS [3] [0, 1, 2, 4, 5, 6, 7, 8, 9, 10, 11] [0, 1, 2, 11, 3, 4, 5, 6, 7, 8, 9, 10] (wN := (wX9 G h0 a0 wk f0 A0 ++ (wX1 G (a0 1) a1 f1 A1 ++ (wX6 G (a0 2) a2 f2 A2)))) rfl rfl rfl rfl rfl hl.1 (Nat.le_of_ble_eq_true rfl) dX9_placeIs_101 (fun H locs hPD hS => ?_)
      obtain rfl := Option.some.inj h
      exact eI C0 hPD.1 hPD.2 hS rfl dX9_placeIs_104
    have h := (if_neg cc4).symm.trans h
    refine lv_swTD (tgt := 105) (ks := [0, 1, 2, 3, 4]) hx hb dX9_placeIs_14 (by decide) (by decide) ⟨cc0, cc1, cc2, cc3, cc4, trivial⟩ (by decide) ?_
    refine lv_iconst (v := (-1)) hx hb dX9_placeIs_105 (by decide) ?_
    obtain rfl := Option.some.inj h
    exact eI C0 hPD.1 hPD.2 hS rfl dX9_placeIs_106
  · have h := (if_pos cc1).symm.trans h
    refine lv_iconst (v := (-1)) hx hb dX9_placeIs_11 (by decide) ?_
    obtain rfl := Option.some.inj h
    exact eI C0 hPD.1 hPD.2 hS rfl dX9_placeIs_12
abbrev rmX9_constableIs : Room := { frames := 3, cells := 0, slots := 0, locals := 64 }
set_option maxRecDepth 100000 in
set_option maxHeartbeats 4000000 in
theorem kt_X9_constableIs (l : Launch) (G : Gp) (h0 : Nat) (a0 : Nat → Nat) (wk : Option Nat) (a1 : Nat → Nat) (g2 : Nat → Nat) (aB2 : Nat → Nat → Nat) (f0 : Nat → Int32) (A0 : Nat → Nat → Int32) (f1 : Nat → Int32) (A1 : Nat → Nat → Int32) (fB2 : Nat → Nat → Int32) (AB2 : Nat → Nat → Nat → Int32) (p1 : Int32) (p2 : Int32) : ∀ {r : Int32}, f9_constableIs f0 A0 f1 A1 fB2 AB2 p1 p2 = some r → CtrI l yX9_constableIs cX9_constableIs 3 (some .int) rmX9_constableIs G [.ref h0, .int p1, .int p2] (wX9 G h0 a0 wk f0 A0 ++ (wX6 G (a0 2) a1 f1 A1 ++ (wB G (a0 5) g2 aB2 fB2 AB2))) r (wX9 G h0 a0 wk f0 A0 ++ (wX6 G (a0 2) a1 f1 A1 ++ (wB G (a0 5) g2 aB2 fB2 AB2))) := by
  intro res h
  refine ctrI_of (cc := cX9_constableIs) (maxL := 3) (ret := (some .int)) (by decide +kernel) rfl (Nat.le_of_ble_eq_true rfl) (fun p e s m below meth c DA C0 hP hD ls hl => ?_)
  have hPD : WD G DA (wX9 G h0 a0 wk f0 A0 ++ (wX6 G (a0 2) a1 f1 A1 ++ (wB G (a0 5) g2 aB2 fB2 AB2))) s.heap := ⟨hP, hD⟩
  have hS : va_S DA s.heap s.heap [] := va_S.rf
  have hl : lv_has ls 3 [(0, .ref h0), (1, .int p1), (2, .int p2)] := hl
  obtain ⟨hx, hb, hml, hown, hts⟩ := C0.1
  have hK := C0.2.2.2.1
  unfold f9_constableIs at h
  refine lv_aload_n hx hb dX9_constableIs_0 rfl (lv_at hl 0 rfl) ?_
  refine va_get (D := G.1) (ci := 9) (v := .ref (a0 2)) (C := RX9) (T := TX9) (N := 15) hx hb hts inlX9 hown hK hPD.1 0 rfl rfl 2 (by decide) (hts _ gw_356) (fun _ h9 => h9) rfl dX9_constableIs_1 ?_
  refine lv_iload_n hx hb dX9_constableIs_4 rfl (lv_at hl 1 rfl) ?_
  refine kVI (As := [.int p1]) (rest := []) C0 (kt_X6_isTold l G (a0 2) a1 f1 A1 p1) gi_V_X9_195_X6_isTold (n := 1) rfl (by decide +kernel) rfl ⟨rfl, rfl, Nat.le_of_ble_eq_true rfl, Nat.le_of_ble_eq_true rfl⟩ hPD hS 2 6 rfl rfl rfl [2, 3, 4, 5, 6, 7] [0, 1, 8, 9, 10, 11, 12, 13, 14, 15, 16, 17, 18, 19, 20, 21, 22, 23, 24] [0, 1, 19, 20, 21, 22, 23, 24, 2, 3, 4, 5, 6, 7, 8, 9, 10, 11, 12, 13, 14, 15, 16, 17, 18] (wN := (wX9 G h0 a0 wk f0 A0 ++ (wX6 G (a0 2) a1 f1 A1 ++ (wB G (a0 5) g2 aB2 fB2 AB2)))) rfl rfl rfl rfl rfl hl.1 (Nat.le_of_ble_eq_true rfl) dX9_constableIs_5 (fun H locs hPD hS => ?_)
  refine lv_if_eq (tgt := 26) hx hb dX9_constableIs_8 (by decide) (fun cc1 => ?_) (fun cc1 => ?_)
  · have h := (if_pos cc1).symm.trans h
    refine lv_iconst (v := (-1)) hx hb dX9_constableIs_26 (by decide) ?_
    obtain rfl := Option.some.inj h
    exact eI C0 hPD.1 hPD.2 hS rfl dX9_constableIs_27
  · have h := (if_neg cc1).symm.trans h
    refine lv_iload_n hx hb dX9_constableIs_11 rfl (lv_at hl 1 rfl) ?_
    refine lv_iconst (v := 0) hx hb dX9_constableIs_12 (by decide) ?_
    refine lv_aload_n hx hb dX9_constableIs_13 rfl (lv_at hl 0 rfl) ?_
    refine va_get (D := G.1) (ci := 9) (v := .ref (a0 5)) (C := RX9) (T := TX9) (N := 15) hx hb hts inlX9 hown hK hPD.1 0 rfl rfl 5 (by decide) (hts _ gw_392) (fun _ h9 => h9) rfl dX9_constableIs_14 ?_
    refine va_alen (v := 8) hx hb hK hPD.1 8 2 rfl rfl rfl dX9_constableIs_17 ?_
    refine lv_iconst (v := 1) hx hb dX9_constableIs_18 (by decide) ?_
    refine lv_isub hx hb dX9_constableIs_19 ?_
    refine kSI (As := [.int p1, .int 0, .int (8 - 1)]) (rest := []) C0 (kt_X9_within l G  p1 0 (8 - 1)) gi_S_X9_90_X9_within (n := 3) rfl (by decide +kernel) ⟨rfl, rfl, Nat.le_of_ble_eq_true rfl, Nat.le_of_ble_eq_true rfl⟩ hPD hS [] [0, 1, 2, 3, 4, 5, 6, 7, 8, 9, 10, 11, 12, 13, 14, 15, 16, 17, 18, 19, 20, 21, 22, 23, 24] [0, 1, 2, 3, 4, 5, 6, 7, 8, 9, 10, 11, 12, 13, 14, 15, 16, 17, 18, 19, 20, 21, 22, 23, 24] (wN := (wX9 G h0 a0 wk f0 A0 ++ (wX6 G (a0 2) a1 f1 A1 ++ (wB G (a0 5) g2 aB2 fB2 AB2)))) rfl rfl rfl rfl rfl hl.1 (Nat.le_of_ble_eq_true rfl) dX9_constableIs_20 (fun H locs hPD hS => ?_)
    refine lv_if_ne (tgt := 28) hx hb dX9_constableIs_23 (by decide) (fun cc1 => ?_) (fun cc1 => ?_)
    · have h := (if_neg cc1).symm.trans h
      refine lv_iload_n hx hb dX9_constableIs_28 rfl (lv_at hl 2 rfl) ?_
      by_cases cc0 : p2 = 0
      · have h := (if_pos cc0).symm.trans h
        refine lv_swT (tgt := 56) (k := 0) hx hb dX9_constableIs_29 cc0 (by decide) (by decide) ?_
        refine lv_aload_n hx hb dX9_constableIs_56 rfl (lv_at hl 0 rfl) ?_
        refine va_get (D := G.1) (ci := 9) (v := .ref (a0 2)) (C := RX9) (T := TX9) (N := 15) hx hb hts inlX9 hown hK hPD.1 0 rfl rfl 2 (by decide) (hts _ gw_356) (fun _ h9 => h9) rfl dX9_constableIs_57 ?_
        refine va_get (D := G.1) (ci := 6) (v := .ref (a1 3)) (C := RX6) (T := TX6) (N := 10) hx hb hts inlX6 hown hK hPD.1 2 rfl rfl 3 (by decide) (hts _ gw_362) (fun _ h9 => h9) rfl dX9_constableIs_60 ?_
        refine lv_iload_n hx hb dX9_constableIs_63 rfl (lv_at hl 1 rfl) ?_
        refine kSI (As := [.ref (a1 3), .int p1]) (rest := []) C0 (kt_X9_at l G (a1 3) 8 (A1 3) p1 (by decide)) gi_S_X9_188_X9_at (n := 2) rfl (by decide +kernel) ⟨rfl, rfl, Nat.le_of_ble_eq_true rfl, Nat.le_of_ble_eq_true rfl⟩ hPD hS [6] [0, 1, 2, 3, 4, 5, 7, 8, 9, 10, 11, 12, 13, 14, 15, 16, 17, 18, 19, 20, 21, 22, 23, 24] [0, 1, 2, 3, 4, 5, 24, 6, 7, 8, 9, 10, 11, 12, 13, 14, 15, 16, 17, 18, 19, 20, 21, 22, 23] (wN := (wX9 G h0 a0 wk f0 A0 ++ (wX6 G (a0 2) a1 f1 A1 ++ (wB G (a0 5) g2 aB2 fB2 AB2)))) rfl rfl rfl rfl rfl hl.1 (Nat.le_of_ble_eq_true rfl) dX9_constableIs_64 (fun H locs hPD hS => ?_)
        obtain rfl := Option.some.inj h
        exact eI C0 hPD.1 hPD.2 hS rfl dX9_constableIs_67
      have h := (if_neg cc0).symm.trans h
      by_cases cc1 : p2 = 1
      · have h := (if_pos cc1).symm.trans h
        refine lv_swT (tgt := 68) (k := 1) hx hb dX9_constableIs_29 cc1 (by decide) (by decide) ?_
        refine lv_aload_n hx hb dX9_constableIs_68 rfl (lv_at hl 0 rfl) ?_
        refine va_get (D := G.1) (ci := 9) (v := .ref (a0 2)) (C := RX9) (T := TX9) (N := 15) hx hb hts inlX9 hown hK hPD.1 0 rfl rfl 2 (by decide) (hts _ gw_356) (fun _ h9 => h9) rfl dX9_constableIs_69 ?_
        refine va_get (D := G.1) (ci := 6) (v := .ref (a1 4)) (C := RX6) (T := TX6) (N := 10) hx hb hts inlX6 hown hK hPD.1 2 rfl rfl 4 (by decide) (hts _ gw_363) (fun _ h9 => h9) rfl dX9_constableIs_72 ?_
        refine lv_iload_n hx hb dX9_constableIs_75 rfl (lv_at hl 1 rfl) ?_
        refine kSI (As := [.ref (a1 4), .int p1]) (rest := []) C0 (kt_X9_at l G (a1 4) 8 (A1 4) p1 (by decide)) gi_S_X9_188_X9_at (n := 2) rfl (by decide +kernel) ⟨rfl, rfl, Nat.le_of_ble_eq_true rfl, Nat.le_of_ble_eq_true rfl⟩ hPD hS [7] [0, 1, 2, 3, 4, 5, 6, 8, 9, 10, 11, 12, 13, 14, 15, 16, 17, 18, 19, 20, 21, 22, 23, 24] [0, 1, 2, 3, 4, 5, 6, 24, 7, 8, 9, 10, 11, 12, 13, 14, 15, 16, 17, 18, 19, 20, 21, 22, 23] (wN := (wX9 G h0 a0 wk f0 A0 ++ (wX6 G (a0 2) a1 f1 A1 ++ (wB G (a0 5) g2 aB2 fB2 AB2)))) rfl rfl rfl rfl rfl hl.1 (Nat.le_of_ble_eq_true rfl) dX9_constableIs_76 (fun H locs hPD hS => ?_)
        obtain rfl := Option.some.inj h
        exact eI C0 hPD.1 hPD.2 hS rfl dX9_constableIs_79
      have h := (if_neg cc1).symm.trans h
      by_cases cc2 : p2 = 2
      · have h := (if_pos cc2).symm.trans h
        refine lv_swT (tgt := 80) (k := 2) hx hb dX9_constableIs_29 cc2 (by decide) (by decide) ?_
        refine lv_aload_n hx hb dX9_constableIs_80 rfl (lv_at hl 0 rfl) ?_
        refine va_get (D := G.1) (ci := 9) (v := .ref (a0 5)) (C := RX9) (T := TX9) (N := 15) hx hb hts inlX9 hown hK hPD.1 0 rfl rfl 5 (by decide) (hts _ gw_392) (fun _ h9 => h9) rfl dX9_constableIs_81 ?_
        refine lv_iload_n hx hb dX9_constableIs_84 rfl (lv_at hl 1 rfl) ?_
        obtain ⟨hi_1, h⟩ := ob h
        obtain ⟨b_2, eb_2, h⟩ := lvl h
        have hb_3 := bts_lt hi_1 eb_2
        refine va_aldB hx hb hK hPD.1 8 2 rfl rfl hi_1 eb_2 dX9_constableIs_85 ?_
        rcases lt8 hb_3 with rfl | rfl | rfl | rfl | rfl | rfl | rfl | rfl
        · refine lv_ifnonnull (tgt := 93) hx hb dX9_constableIs_86 (by decide) ?_
          refine lv_aload_n hx hb dX9_constableIs_93 rfl (lv_at hl 0 rfl) ?_
          refine va_get (D := G.1) (ci := 9) (v := .ref (a0 5)) (C := RX9) (T := TX9) (N := 15) hx hb hts inlX9 hown hK hPD.1 0 rfl rfl 5 (by decide) (hts _ gw_392) (fun _ h9 => h9) rfl dX9_constableIs_94 ?_
          refine lv_iload_n hx hb dX9_constableIs_97 rfl (lv_at hl 1 rfl) ?_
          obtain ⟨hi_4, h⟩ := ob h
          obtain ⟨b_5, eb_5, h⟩ := lvl h
          have hb_6 := bts_lt hi_4 eb_5
          refine va_aldB hx hb hK hPD.1 8 2 rfl rfl hi_4 eb_5 dX9_constableIs_98 ?_
          rcases lt8 hb_6 with rfl | rfl | rfl | rfl | rfl | rfl | rfl | rfl
          · refine va_get (D := G.1) (ci := 0) (v := .int (fB2 0 1)) (C := RX0) (T := TX0) (N := 2) hx hb hts inlX0 hown hK hPD.1 9 rfl rfl 1 (by decide) (hts _ gw_398) (fun _ h9 => h9) rfl dX9_constableIs_99 ?_
            obtain rfl := Option.some.inj h
            exact eI C0 hPD.1 hPD.2 hS rfl dX9_constableIs_102
          · refine va_get (D := G.1) (ci := 0) (v := .int (fB2 1 1)) (C := RX0) (T := TX0) (N := 2) hx hb hts inlX0 hown hK hPD.1 11 rfl rfl 1 (by decide) (hts _ gw_398) (fun _ h9 => h9) rfl dX9_constableIs_99 ?_
            obtain rfl := Option.some.inj h
            exact eI C0 hPD.1 hPD.2 hS rfl dX9_constableIs_102
          · refine va_get (D := G.1) (ci := 0) (v := .int (fB2 2 1)) (C := RX0) (T := TX0) (N := 2) hx hb hts inlX0 hown hK hPD.1 13 rfl rfl 1 (by decide) (hts _ gw_398) (fun _ h9 => h9) rfl dX9_constableIs_99 ?_
            obtain rfl := Option.some.inj h
            exact eI C0 hPD.1 hPD.2 hS rfl dX9_constableIs_102
          · refine va_get (D := G.1) (ci := 0) (v := .int (fB2 3 1)) (C := RX0) (T := TX0) (N := 2) hx hb hts inlX0 hown hK hPD.1 15 rfl rfl 1 (by decide) (hts _ gw_398) (fun _ h9 => h9) rfl dX9_constableIs_99 ?_
            obtain rfl := Option.some.inj h
            exact eI C0 hPD.1 hPD.2 hS rfl dX9_constableIs_102
          · refine va_get (D := G.1) (ci := 0) (v := .int (fB2 4 1)) (C := RX0) (T := TX0) (N := 2) hx hb hts inlX0 hown hK hPD.1 17 rfl rfl 1 (by decide) (hts _ gw_398) (fun _ h9 => h9) rfl dX9_constableIs_99 ?_
            obtain rfl := Option.some.inj h
            exact eI C0 hPD.1 hPD.2 hS rfl dX9_constableIs_102
          · refine va_get (D := G.1) (ci := 0) (v := .int (fB2 5 1)) (C := RX0) (T := TX0) (N := 2) hx hb hts inlX0 hown hK hPD.1 19 rfl rfl 1 (by decide) (hts _ gw_398) (fun _ h9 => h9) rfl dX9_constableIs_99 ?_
            obtain rfl := Option.some.inj h
            exact eI C0 hPD.1 hPD.2 hS rfl dX9_constableIs_102
          · refine va_get (D := G.1) (ci := 0) (v := .int (fB2 6 1)) (C := RX0) (T := TX0) (N := 2) hx hb hts inlX0 hown hK hPD.1 21 rfl rfl 1 (by decide) (hts _ gw_398) (fun _ h9 => h9) rfl dX9_constableIs_99 ?_
            obtain rfl := Option.some.inj h
            exact eI C0 hPD.1 hPD.2 hS rfl dX9_constableIs_102
          · refine va_get (D := G.1) (ci := 0) (v := .int (fB2 7 1)) (C := RX0) (T := TX0) (N := 2) hx hb hts inlX0 hown hK hPD.1 23 rfl rfl 1 (by decide) (hts _ gw_398) (fun _ h9 => h9) rfl dX9_constableIs_99 ?_
            obtain rfl := Option.some.inj h
            exact eI C0 hPD.1 hPD.2 hS rfl dX9_constableIs_102
        · refine lv_ifnonnull (tgt := 93) hx hb dX9_constableIs_86 (by decide) ?_
          refine lv_aload_n hx hb dX9_constableIs_93 rfl (lv_at hl 0 rfl) ?_
          refine va_get (D := G.1) (ci := 9) (v := .ref (a0 5)) (C := RX9) (T := TX9) (N := 15) hx hb hts inlX9 hown hK hPD.1 0 rfl rfl 5 (by decide) (hts _ gw_392) (fun _ h9 => h9) rfl dX9_constableIs_94 ?_
          refine lv_iload_n hx hb dX9_constableIs_97 rfl (lv_at hl 1 rfl) ?_
          obtain ⟨hi_4, h⟩ := ob h
          obtain ⟨b_5, eb_5, h⟩ := lvl h
          have hb_6 := bts_lt hi_4 eb_5
          refine va_aldB hx hb hK hPD.1 8 2 rfl rfl hi_4 eb_5 dX9_constableIs_98 ?_
          rcases lt8 hb_6 with rfl | rfl | rfl | rfl | rfl | rfl | rfl | rfl
          · refine va_get (D := G.1) (ci := 0) (v := .int (fB2 0 1)) (C := RX0) (T := TX0) (N := 2) hx hb hts inlX0 hown hK hPD.1 9 rfl rfl 1 (by decide) (hts _ gw_398) (fun _ h9 => h9) rfl dX9_constableIs_99 ?_
            obtain rfl := Option.some.inj h
            exact eI C0 hPD.1 hPD.2 hS rfl dX9_constableIs_102
          · refine va_get (D := G.1) (ci := 0) (v := .int (fB2 1 1)) (C := RX0) (T := TX0) (N := 2) hx hb hts inlX0 hown hK hPD.1 11 rfl rfl 1 (by decide) (hts _ gw_398) (fun _ h9 => h9) rfl dX9_constableIs_99 ?_
            obtain rfl := Option.some.inj h
            exact eI C0 hPD.1 hPD.2 hS rfl dX9_constableIs_102
          · refine va_get (D := G.1) (ci := 0) (v := .int (fB2 2 1)) (C := RX0) (T := TX0) (N := 2) hx hb hts inlX0 hown hK hPD.1 13 rfl rfl 1 (by decide) (hts _ gw_398) (fun _ h9 => h9) rfl dX9_constableIs_99 ?_
            obtain rfl := Option.some.inj h
            exact eI C0 hPD.1 hPD.2 hS rfl dX9_constableIs_102
          · refine va_get (D := G.1) (ci := 0) (v := .int (fB2 3 1)) (C := RX0) (T := TX0) (N := 2) hx hb hts inlX0 hown hK hPD.1 15 rfl rfl 1 (by decide) (hts _ gw_398) (fun _ h9 => h9) rfl dX9_constableIs_99 ?_
            obtain rfl := Option.some.inj h
            exact eI C0 hPD.1 hPD.2 hS rfl dX9_constableIs_102
          · refine va_get (D := G.1) (ci := 0) (v := .int (fB2 4 1)) (C := RX0) (T := TX0) (N := 2) hx hb hts inlX0 hown hK hPD.1 17 rfl rfl 1 (by decide) (hts _ gw_398) (fun _ h9 => h9) rfl dX9_constableIs_99 ?_
            obtain rfl := Option.some.inj h
            exact eI C0 hPD.1 hPD.2 hS rfl dX9_constableIs_102
          · refine va_get (D := G.1) (ci := 0) (v := .int (fB2 5 1)) (C := RX0) (T := TX0) (N := 2) hx hb hts inlX0 hown hK hPD.1 19 rfl rfl 1 (by decide) (hts _ gw_398) (fun _ h9 => h9) rfl dX9_constableIs_99 ?_
            obtain rfl := Option.some.inj h
            exact eI C0 hPD.1 hPD.2 hS rfl dX9_constableIs_102
          · refine va_get (D := G.1) (ci := 0) (v := .int (fB2 6 1)) (C := RX0) (T := TX0) (N := 2) hx hb hts inlX0 hown hK hPD.1 21 rfl rfl 1 (by decide) (hts _ gw_398) (fun _ h9 => h9) rfl dX9_constableIs_99 ?_
            obtain rfl := Option.some.inj h
            exact eI C0 hPD.1 hPD.2 hS rfl dX9_constableIs_102
          · refine va_get (D := G.1) (ci := 0) (v := .int (fB2 7 1)) (C := RX0) (T := TX0) (N := 2) hx hb hts inlX0 hown hK hPD.1 23 rfl rfl 1 (by decide) (hts _ gw_398) (fun _ h9 => h9) rfl dX9_constableIs_99 ?_
            obtain rfl := Option.some.inj h
            exact eI C0 hPD.1 hPD.2 hS rfl dX9_constableIs_102
        · refine lv_ifnonnull (tgt := 93) hx hb dX9_constableIs_86 (by decide) ?_
          refine lv_aload_n hx hb dX9_constableIs_93 rfl (lv_at hl 0 rfl) ?_
          refine va_get (D := G.1) (ci := 9) (v := .ref (a0 5)) (C := RX9) (T := TX9) (N := 15) hx hb hts inlX9 hown hK hPD.1 0 rfl rfl 5 (by decide) (hts _ gw_392) (fun _ h9 => h9) rfl dX9_constableIs_94 ?_
          refine lv_iload_n hx hb dX9_constableIs_97 rfl (lv_at hl 1 rfl) ?_
          obtain ⟨hi_4, h⟩ := ob h
          obtain ⟨b_5, eb_5, h⟩ := lvl h
          have hb_6 := bts_lt hi_4 eb_5
          refine va_aldB hx hb hK hPD.1 8 2 rfl rfl hi_4 eb_5 dX9_constableIs_98 ?_
          rcases lt8 hb_6 with rfl | rfl | rfl | rfl | rfl | rfl | rfl | rfl
          · refine va_get (D := G.1) (ci := 0) (v := .int (fB2 0 1)) (C := RX0) (T := TX0) (N := 2) hx hb hts inlX0 hown hK hPD.1 9 rfl rfl 1 (by decide) (hts _ gw_398) (fun _ h9 => h9) rfl dX9_constableIs_99 ?_
            obtain rfl := Option.some.inj h
            exact eI C0 hPD.1 hPD.2 hS rfl dX9_constableIs_102
          · refine va_get (D := G.1) (ci := 0) (v := .int (fB2 1 1)) (C := RX0) (T := TX0) (N := 2) hx hb hts inlX0 hown hK hPD.1 11 rfl rfl 1 (by decide) (hts _ gw_398) (fun _ h9 => h9) rfl dX9_constableIs_99 ?_
            obtain rfl := Option.some.inj h
            exact eI C0 hPD.1 hPD.2 hS rfl dX9_constableIs_102
          · refine va_get (D := G.1) (ci := 0) (v := .int (fB2 2 1)) (C := RX0) (T := TX0) (N := 2) hx hb hts inlX0 hown hK hPD.1 13 rfl rfl 1 (by decide) (hts _ gw_398) (fun _ h9 => h9) rfl dX9_constableIs_99 ?_
            obtain rfl := Option.some.inj h
            exact eI C0 hPD.1 hPD.2 hS rfl dX9_constableIs_102
          · refine va_get (D := G.1) (ci := 0) (v := .int (fB2 3 1)) (C := RX0) (T := TX0) (N := 2) hx hb hts inlX0 hown hK hPD.1 15 rfl rfl 1 (by decide) (hts _ gw_398) (fun _ h9 => h9) rfl dX9_constableIs_99 ?_
            obtain rfl := Option.some.inj h
            exact eI C0 hPD.1 hPD.2 hS rfl dX9_constableIs_102
          · refine va_get (D := G.1) (ci := 0) (v := .int (fB2 4 1)) (C := RX0) (T := TX0) (N := 2) hx hb hts inlX0 hown hK hPD.1 17 rfl rfl 1 (by decide) (hts _ gw_398) (fun _ h9 => h9) rfl dX9_constableIs_99 ?_
            obtain rfl := Option.some.inj h
            exact eI C0 hPD.1 hPD.2 hS rfl dX9_constableIs_102
          · refine va_get (D := G.1) (ci := 0) (v := .int (fB2 5 1)) (C := RX0) (T := TX0) (N := 2) hx hb hts inlX0 hown hK hPD.1 19 rfl rfl 1 (by decide) (hts _ gw_398) (fun _ h9 => h9) rfl dX9_constableIs_99 ?_
            obtain rfl := Option.some.inj h
            exact eI C0 hPD.1 hPD.2 hS rfl dX9_constableIs_102
          · refine va_get (D := G.1) (ci := 0) (v := .int (fB2 6 1)) (C := RX0) (T := TX0) (N := 2) hx hb hts inlX0 hown hK hPD.1 21 rfl rfl 1 (by decide) (hts _ gw_398) (fun _ h9 => h9) rfl dX9_constableIs_99 ?_
            obtain rfl := Option.some.inj h
            exact eI C0 hPD.1 hPD.2 hS rfl dX9_constableIs_102
          · refine va_get (D := G.1) (ci := 0) (v := .int (fB2 7 1)) (C := RX0) (T := TX0) (N := 2) hx hb hts inlX0 hown hK hPD.1 23 rfl rfl 1 (by decide) (hts _ gw_398) (fun _ h9 => h9) rfl dX9_constableIs_99 ?_
            obtain rfl := Option.some.inj h
            exact eI C0 hPD.1 hPD.2 hS rfl dX9_constableIs_102
        · refine lv_ifnonnull (tgt := 93) hx hb dX9_constableIs_86 (by decide) ?_
          refine lv_aload_n hx hb dX9_constableIs_93 rfl (lv_at hl 0 rfl) ?_
          refine va_get (D := G.1) (ci := 9) (v := .ref (a0 5)) (C := RX9) (T := TX9) (N := 15) hx hb hts inlX9 hown hK hPD.1 0 rfl rfl 5 (by decide) (hts _ gw_392) (fun _ h9 => h9) rfl dX9_constableIs_94 ?_
          refine lv_iload_n hx hb dX9_constableIs_97 rfl (lv_at hl 1 rfl) ?_
          obtain ⟨hi_4, h⟩ := ob h
          obtain ⟨b_5, eb_5, h⟩ := lvl h
          have hb_6 := bts_lt hi_4 eb_5
          refine va_aldB hx hb hK hPD.1 8 2 rfl rfl hi_4 eb_5 dX9_constableIs_98 ?_
          rcases lt8 hb_6 with rfl | rfl | rfl | rfl | rfl | rfl | rfl | rfl
          · refine va_get (D := G.1) (ci := 0) (v := .int (fB2 0 1)) (C := RX0) (T := TX0) (N := 2) hx hb hts inlX0 hown hK hPD.1 9 rfl rfl 1 (by decide) (hts _ gw_398) (fun _ h9 => h9) rfl dX9_constableIs_99 ?_
            obtain rfl := Option.some.inj h
            exact eI C0 hPD.1 hPD.2 hS rfl dX9_constableIs_102
          · refine va_get (D := G.1) (ci := 0) (v := .int (fB2 1 1)) (C := RX0) (T := TX0) (N := 2) hx hb hts inlX0 hown hK hPD.1 11 rfl rfl 1 (by decide) (hts _ gw_398) (fun _ h9 => h9) rfl dX9_constableIs_99 ?_
            obtain rfl := Option.some.inj h
            exact eI C0 hPD.1 hPD.2 hS rfl dX9_constableIs_102
          · refine va_get (D := G.1) (ci := 0) (v := .int (fB2 2 1)) (C := RX0) (T := TX0) (N := 2) hx hb hts inlX0 hown hK hPD.1 13 rfl rfl 1 (by decide) (hts _ gw_398) (fun _ h9 => h9) rfl dX9_constableIs_99 ?_
            obtain rfl := Option.some.inj h
            exact eI C0 hPD.1 hPD.2 hS rfl dX9_constableIs_102
          · refine va_get (D := G.1) (ci := 0) (v := .int (fB2 3 1)) (C := RX0) (T := TX0) (N := 2) hx hb hts inlX0 hown hK hPD.1 15 rfl rfl 1 (by decide) (hts _ gw_398) (fun _ h9 => h9) rfl dX9_constableIs_99 ?_
            obtain rfl := Option.some.inj h
            exact eI C0 hPD.1 hPD.2 hS rfl dX9_constableIs_102
          · refine va_get (D := G.1) (ci := 0) (v := .int (fB2 4 1)) (C := RX0) (T := TX0) (N := 2) hx hb hts inlX0 hown hK hPD.1 17 rfl rfl 1 (by decide) (hts _ gw_398) (fun _ h9 => h9) rfl dX9_constableIs_99 ?_
            obtain rfl := Option.some.inj h
            exact eI C0 hPD.1 hPD.2 hS rfl dX9_constableIs_102
          · refine va_get (D := G.1) (ci := 0) (v := .int (fB2 5 1)) (C := RX0) (T := TX0) (N := 2) hx hb hts inlX0 hown hK hPD.1 19 rfl rfl 1 (by decide) (hts _ gw_398) (fun _ h9 => h9) rfl dX9_constableIs_99 ?_
            obtain rfl := Option.some.inj h
            exact eI C0 hPD.1 hPD.2 hS rfl dX9_constableIs_102
          · refine va_get (D := G.1) (ci := 0) (v := .int (fB2 6 1)) (C := RX0) (T := TX0) (N := 2) hx hb hts inlX0 hown hK hPD.1 21 rfl rfl 1 (by decide) (hts _ gw_398) (fun _ h9 => h9) rfl dX9_constableIs_99 ?_
            obtain rfl := Option.some.inj h
            exact eI C0 hPD.1 hPD.2 hS rfl dX9_constableIs_102
          · refine va_get (D := G.1) (ci := 0) (v := .int (fB2 7 1)) (C := RX0) (T := TX0) (N := 2) hx hb hts inlX0 hown hK hPD.1 23 rfl rfl 1 (by decide) (hts _ gw_398) (fun _ h9 => h9) rfl dX9_constableIs_99 ?_
            obtain rfl := Option.some.inj h
            exact eI C0 hPD.1 hPD.2 hS rfl dX9_constableIs_102
        · refine lv_ifnonnull (tgt := 93) hx hb dX9_constableIs_86 (by decide) ?_
          refine lv_aload_n hx hb dX9_constableIs_93 rfl (lv_at hl 0 rfl) ?_
          refine va_get (D := G.1) (ci := 9) (v := .ref (a0 5)) (C := RX9) (T := TX9) (N := 15) hx hb hts inlX9 hown hK hPD.1 0 rfl rfl 5 (by decide) (hts _ gw_392) (fun _ h9 => h9) rfl dX9_constableIs_94 ?_
          refine lv_iload_n hx hb dX9_constableIs_97 rfl (lv_at hl 1 rfl) ?_
          obtain ⟨hi_4, h⟩ := ob h
          obtain ⟨b_5, eb_5, h⟩ := lvl h
          have hb_6 := bts_lt hi_4 eb_5
          refine va_aldB hx hb hK hPD.1 8 2 rfl rfl hi_4 eb_5 dX9_constableIs_98 ?_
          rcases lt8 hb_6 with rfl | rfl | rfl | rfl | rfl | rfl | rfl | rfl
          · refine va_get (D := G.1) (ci := 0) (v := .int (fB2 0 1)) (C := RX0) (T := TX0) (N := 2) hx hb hts inlX0 hown hK hPD.1 9 rfl rfl 1 (by decide) (hts _ gw_398) (fun _ h9 => h9) rfl dX9_constableIs_99 ?_
            obtain rfl := Option.some.inj h
            exact eI C0 hPD.1 hPD.2 hS rfl dX9_constableIs_102
          · refine va_get (D := G.1) (ci := 0) (v := .int (fB2 1 1)) (C := RX0) (T := TX0) (N := 2) hx hb hts inlX0 hown hK hPD.1 11 rfl rfl 1 (by decide) (hts _ gw_398) (fun _ h9 => h9) rfl dX9_constableIs_99 ?_
            obtain rfl := Option.some.inj h
            exact eI C0 hPD.1 hPD.2 hS rfl dX9_constableIs_102
          · refine va_get (D := G.1) (ci := 0) (v := .int (fB2 2 1)) (C := RX0) (T := TX0) (N := 2) hx hb hts inlX0 hown hK hPD.1 13 rfl rfl 1 (by decide) (hts _ gw_398) (fun _ h9 => h9) rfl dX9_constableIs_99 ?_
            obtain rfl := Option.some.inj h
            exact eI C0 hPD.1 hPD.2 hS rfl dX9_constableIs_102
          · refine va_get (D := G.1) (ci := 0) (v := .int (fB2 3 1)) (C := RX0) (T := TX0) (N := 2) hx hb hts inlX0 hown hK hPD.1 15 rfl rfl 1 (by decide) (hts _ gw_398) (fun _ h9 => h9) rfl dX9_constableIs_99 ?_
            obtain rfl := Option.some.inj h
            exact eI C0 hPD.1 hPD.2 hS rfl dX9_constableIs_102
          · refine va_get (D := G.1) (ci := 0) (v := .int (fB2 4 1)) (C := RX0) (T := TX0) (N := 2) hx hb hts inlX0 hown hK hPD.1 17 rfl rfl 1 (by decide) (hts _ gw_398) (fun _ h9 => h9) rfl dX9_constableIs_99 ?_
            obtain rfl := Option.some.inj h
            exact eI C0 hPD.1 hPD.2 hS rfl dX9_constableIs_102
          · refine va_get (D := G.1) (ci := 0) (v := .int (fB2 5 1)) (C := RX0) (T := TX0) (N := 2) hx hb hts inlX0 hown hK hPD.1 19 rfl rfl 1 (by decide) (hts _ gw_398) (fun _ h9 => h9) rfl dX9_constableIs_99 ?_
            obtain rfl := Option.some.inj h
            exact eI C0 hPD.1 hPD.2 hS rfl dX9_constableIs_102
          · refine va_get (D := G.1) (ci := 0) (v := .int (fB2 6 1)) (C := RX0) (T := TX0) (N := 2) hx hb hts inlX0 hown hK hPD.1 21 rfl rfl 1 (by decide) (hts _ gw_398) (fun _ h9 => h9) rfl dX9_constableIs_99 ?_
            obtain rfl := Option.some.inj h
            exact eI C0 hPD.1 hPD.2 hS rfl dX9_constableIs_102
          · refine va_get (D := G.1) (ci := 0) (v := .int (fB2 7 1)) (C := RX0) (T := TX0) (N := 2) hx hb hts inlX0 hown hK hPD.1 23 rfl rfl 1 (by decide) (hts _ gw_398) (fun _ h9 => h9) rfl dX9_constableIs_99 ?_
            obtain rfl := Option.some.inj h
            exact eI C0 hPD.1 hPD.2 hS rfl dX9_constableIs_102
        · refine lv_ifnonnull (tgt := 93) hx hb dX9_constableIs_86 (by decide) ?_
          refine lv_aload_n hx hb dX9_constableIs_93 rfl (lv_at hl 0 rfl) ?_
          refine va_get (D := G.1) (ci := 9) (v := .ref (a0 5)) (C := RX9) (T := TX9) (N := 15) hx hb hts inlX9 hown hK hPD.1 0 rfl rfl 5 (by decide) (hts _ gw_392) (fun _ h9 => h9) rfl dX9_constableIs_94 ?_
          refine lv_iload_n hx hb dX9_constableIs_97 rfl (lv_at hl 1 rfl) ?_
          obtain ⟨hi_4, h⟩ := ob h
          obtain ⟨b_5, eb_5, h⟩ := lvl h
          have hb_6 := bts_lt hi_4 eb_5
          refine va_aldB hx hb hK hPD.1 8 2 rfl rfl hi_4 eb_5 dX9_constableIs_98 ?_
          rcases lt8 hb_6 with rfl | rfl | rfl | rfl | rfl | rfl | rfl | rfl
          · refine va_get (D := G.1) (ci := 0) (v := .int (fB2 0 1)) (C := RX0) (T := TX0) (N := 2) hx hb hts inlX0 hown hK hPD.1 9 rfl rfl 1 (by decide) (hts _ gw_398) (fun _ h9 => h9) rfl dX9_constableIs_99 ?_
            obtain rfl := Option.some.inj h
            exact eI C0 hPD.1 hPD.2 hS rfl dX9_constableIs_102
          · refine va_get (D := G.1) (ci := 0) (v := .int (fB2 1 1)) (C := RX0) (T := TX0) (N := 2) hx hb hts inlX0 hown hK hPD.1 11 rfl rfl 1 (by decide) (hts _ gw_398) (fun _ h9 => h9) rfl dX9_constableIs_99 ?_
            obtain rfl := Option.some.inj h
            exact eI C0 hPD.1 hPD.2 hS rfl dX9_constableIs_102
          · refine va_get (D := G.1) (ci := 0) (v := .int (fB2 2 1)) (C := RX0) (T := TX0) (N := 2) hx hb hts inlX0 hown hK hPD.1 13 rfl rfl 1 (by decide) (hts _ gw_398) (fun _ h9 => h9) rfl dX9_constableIs_99 ?_
            obtain rfl := Option.some.inj h
            exact eI C0 hPD.1 hPD.2 hS rfl dX9_constableIs_102
          · refine va_get (D := G.1) (ci := 0) (v := .int (fB2 3 1)) (C := RX0) (T := TX0) (N := 2) hx hb hts inlX0 hown hK hPD.1 15 rfl rfl 1 (by decide) (hts _ gw_398) (fun _ h9 => h9) rfl dX9_constableIs_99 ?_
            obtain rfl := Option.some.inj h
            exact eI C0 hPD.1 hPD.2 hS rfl dX9_constableIs_102
          · refine va_get (D := G.1) (ci := 0) (v := .int (fB2 4 1)) (C := RX0) (T := TX0) (N := 2) hx hb hts inlX0 hown hK hPD.1 17 rfl rfl 1 (by decide) (hts _ gw_398) (fun _ h9 => h9) rfl dX9_constableIs_99 ?_
            obtain rfl := Option.some.inj h
            exact eI C0 hPD.1 hPD.2 hS rfl dX9_constableIs_102
          · refine va_get (D := G.1) (ci := 0) (v := .int (fB2 5 1)) (C := RX0) (T := TX0) (N := 2) hx hb hts inlX0 hown hK hPD.1 19 rfl rfl 1 (by decide) (hts _ gw_398) (fun _ h9 => h9) rfl dX9_constableIs_99 ?_
            obtain rfl := Option.some.inj h
            exact eI C0 hPD.1 hPD.2 hS rfl dX9_constableIs_102
          · refine va_get (D := G.1) (ci := 0) (v := .int (fB2 6 1)) (C := RX0) (T := TX0) (N := 2) hx hb hts inlX0 hown hK hPD.1 21 rfl rfl 1 (by decide) (hts _ gw_398) (fun _ h9 => h9) rfl dX9_constableIs_99 ?_
            obtain rfl := Option.some.inj h
            exact eI C0 hPD.1 hPD.2 hS rfl dX9_constableIs_102
          · refine va_get (D := G.1) (ci := 0) (v := .int (fB2 7 1)) (C := RX0) (T := TX0) (N := 2) hx hb hts inlX0 hown hK hPD.1 23 rfl rfl 1 (by decide) (hts _ gw_398) (fun _ h9 => h9) rfl dX9_constableIs_99 ?_
            obtain rfl := Option.some.inj h
            exact eI C0 hPD.1 hPD.2 hS rfl dX9_constableIs_102
        · refine lv_ifnonnull (tgt := 93) hx hb dX9_constableIs_86 (by decide) ?_
          refine lv_aload_n hx hb dX9_constableIs_93 rfl (lv_at hl 0 rfl) ?_
          refine va_get (D := G.1) (ci := 9) (v := .ref (a0 5)) (C := RX9) (T := TX9) (N := 15) hx hb hts inlX9 hown hK hPD.1 0 rfl rfl 5 (by decide) (hts _ gw_392) (fun _ h9 => h9) rfl dX9_constableIs_94 ?_
          refine lv_iload_n hx hb dX9_constableIs_97 rfl (lv_at hl 1 rfl) ?_
          obtain ⟨hi_4, h⟩ := ob h
          obtain ⟨b_5, eb_5, h⟩ := lvl h
          have hb_6 := bts_lt hi_4 eb_5
          refine va_aldB hx hb hK hPD.1 8 2 rfl rfl hi_4 eb_5 dX9_constableIs_98 ?_
          rcases lt8 hb_6 with rfl | rfl | rfl | rfl | rfl | rfl | rfl | rfl
          · refine va_get (D := G.1) (ci := 0) (v := .int (fB2 0 1)) (C := RX0) (T := TX0) (N := 2) hx hb hts inlX0 hown hK hPD.1 9 rfl rfl 1 (by decide) (hts _ gw_398) (fun _ h9 => h9) rfl dX9_constableIs_99 ?_
            obtain rfl := Option.some.inj h
            exact eI C0 hPD.1 hPD.2 hS rfl dX9_constableIs_102
          · refine va_get (D := G.1) (ci := 0) (v := .int (fB2 1 1)) (C := RX0) (T := TX0) (N := 2) hx hb hts inlX0 hown hK hPD.1 11 rfl rfl 1 (by decide) (hts _ gw_398) (fun _ h9 => h9) rfl dX9_constableIs_99 ?_
            obtain rfl := Option.some.inj h
            exact eI C0 hPD.1 hPD.2 hS rfl dX9_constableIs_102
          · refine va_get (D := G.1) (ci := 0) (v := .int (fB2 2 1)) (C := RX0) (T := TX0) (N := 2) hx hb hts inlX0 hown hK hPD.1 13 rfl rfl 1 (by decide) (hts _ gw_398) (fun _ h9 => h9) rfl dX9_constableIs_99 ?_
            obtain rfl := Option.some.inj h
            exact eI C0 hPD.1 hPD.2 hS rfl dX9_constableIs_102
          · refine va_get (D := G.1) (ci := 0) (v := .int (fB2 3 1)) (C := RX0) (T := TX0) (N := 2) hx hb hts inlX0 hown hK hPD.1 15 rfl rfl 1 (by decide) (hts _ gw_398) (fun _ h9 => h9) rfl dX9_constableIs_99 ?_
            obtain rfl := Option.some.inj h
            exact eI C0 hPD.1 hPD.2 hS rfl dX9_constableIs_102
          · refine va_get (D := G.1) (ci := 0) (v := .int (fB2 4 1)) (C := RX0) (T := TX0) (N := 2) hx hb hts inlX0 hown hK hPD.1 17 rfl rfl 1 (by decide) (hts _ gw_398) (fun _ h9 => h9) rfl dX9_constableIs_99 ?_
            obtain rfl := Option.some.inj h
            exact eI C0 hPD.1 hPD.2 hS rfl dX9_constableIs_102
          · refine va_get (D := G.1) (ci := 0) (v := .int (fB2 5 1)) (C := RX0) (T := TX0) (N := 2) hx hb hts inlX0 hown hK hPD.1 19 rfl rfl 1 (by decide) (hts _ gw_398) (fun _ h9 => h9) rfl dX9_constableIs_99 ?_
            obtain rfl := Option.some.inj h
            exact eI C0 hPD.1 hPD.2 hS rfl dX9_constableIs_102
          · refine va_get (D := G.1) (ci := 0) (v := .int (fB2 6 1)) (C := RX0) (T := TX0) (N := 2) hx hb hts inlX0 hown hK hPD.1 21 rfl rfl 1 (by decide) (hts _ gw_398) (fun _ h9 => h9) rfl dX9_constableIs_99 ?_
            obtain rfl := Option.some.inj h
            exact eI C0 hPD.1 hPD.2 hS rfl dX9_constableIs_102
          · refine va_get (D := G.1) (ci := 0) (v := .int (fB2 7 1)) (C := RX0) (T := TX0) (N := 2) hx hb hts inlX0 hown hK hPD.1 23 rfl rfl 1 (by decide) (hts _ gw_398) (fun _ h9 => h9) rfl dX9_constableIs_99 ?_
            obtain rfl := Option.some.inj h
            exact eI C0 hPD.1 hPD.2 hS rfl dX9_constableIs_102
        · refine lv_ifnonnull (tgt := 93) hx hb dX9_constableIs_86 (by decide) ?_
          refine lv_aload_n hx hb dX9_constableIs_93 rfl (lv_at hl 0 rfl) ?_
          refine va_get (D := G.1) (ci := 9) (v := .ref (a0 5)) (C := RX9) (T := TX9) (N := 15) hx hb hts inlX9 hown hK hPD.1 0 rfl rfl 5 (by decide) (hts _ gw_392) (fun _ h9 => h9) rfl dX9_constableIs_94 ?_
          refine lv_iload_n hx hb dX9_constableIs_97 rfl (lv_at hl 1 rfl) ?_
          obtain ⟨hi_4, h⟩ := ob h
          obtain ⟨b_5, eb_5, h⟩ := lvl h
          have hb_6 := bts_lt hi_4 eb_5
          refine va_aldB hx hb hK hPD.1 8 2 rfl rfl hi_4 eb_5 dX9_constableIs_98 ?_
          rcases lt8 hb_6 with rfl | rfl | rfl | rfl | rfl | rfl | rfl | rfl
          · refine va_get (D := G.1) (ci := 0) (v := .int (fB2 0 1)) (C := RX0) (T := TX0) (N := 2) hx hb hts inlX0 hown hK hPD.1 9 rfl rfl 1 (by decide) (hts _ gw_398) (fun _ h9 => h9) rfl dX9_constableIs_99 ?_
            obtain rfl := Option.some.inj h
            exact eI C0 hPD.1 hPD.2 hS rfl dX9_constableIs_102
          · refine va_get (D := G.1) (ci := 0) (v := .int (fB2 1 1)) (C := RX0) (T := TX0) (N := 2) hx hb hts inlX0 hown hK hPD.1 11 rfl rfl 1 (by decide) (hts _ gw_398) (fun _ h9 => h9) rfl dX9_constableIs_99 ?_
            obtain rfl := Option.some.inj h
            exact eI C0 hPD.1 hPD.2 hS rfl dX9_constableIs_102
          · refine va_get (D := G.1) (ci := 0) (v := .int (fB2 2 1)) (C := RX0) (T := TX0) (N := 2) hx hb hts inlX0 hown hK hPD.1 13 rfl rfl 1 (by decide) (hts _ gw_398) (fun _ h9 => h9) rfl dX9_constableIs_99 ?_
            obtain rfl := Option.some.inj h
            exact eI C0 hPD.1 hPD.2 hS rfl dX9_constableIs_102
          · refine va_get (D := G.1) (ci := 0) (v := .int (fB2 3 1)) (C := RX0) (T := TX0) (N := 2) hx hb hts inlX0 hown hK hPD.1 15 rfl rfl 1 (by decide) (hts _ gw_398) (fun _ h9 => h9) rfl dX9_constableIs_99 ?_
            obtain rfl := Option.some.inj h
            exact eI C0 hPD.1 hPD.2 hS rfl dX9_constableIs_102
          · refine va_get (D := G.1) (ci := 0) (v := .int (fB2 4 1)) (C := RX0) (T := TX0) (N := 2) hx hb hts inlX0 hown hK hPD.1 17 rfl rfl 1 (by decide) (hts _ gw_398) (fun _ h9 => h9) rfl dX9_constableIs_99 ?_
            obtain rfl := Option.some.inj h
            exact eI C0 hPD.1 hPD.2 hS rfl dX9_constableIs_102
          · refine va_get (D := G.1) (ci := 0) (v := .int (fB2 5 1)) (C := RX0) (T := TX0) (N := 2) hx hb hts inlX0 hown hK hPD.1 19 rfl rfl 1 (by decide) (hts _ gw_398) (fun _ h9 => h9) rfl dX9_constableIs_99 ?_
            obtain rfl := Option.some.inj h
            exact eI C0 hPD.1 hPD.2 hS rfl dX9_constableIs_102
          · refine va_get (D := G.1) (ci := 0) (v := .int (fB2 6 1)) (C := RX0) (T := TX0) (N := 2) hx hb hts inlX0 hown hK hPD.1 21 rfl rfl 1 (by decide) (hts _ gw_398) (fun _ h9 => h9) rfl dX9_constableIs_99 ?_
            obtain rfl := Option.some.inj h
            exact eI C0 hPD.1 hPD.2 hS rfl dX9_constableIs_102
          · refine va_get (D := G.1) (ci := 0) (v := .int (fB2 7 1)) (C := RX0) (T := TX0) (N := 2) hx hb hts inlX0 hown hK hPD.1 23 rfl rfl 1 (by decide) (hts _ gw_398) (fun _ h9 => h9) rfl dX9_constableIs_99 ?_
            obtain rfl := Option.some.inj h
            exact eI C0 hPD.1 hPD.2 hS rfl dX9_constableIs_102
      have h := (if_neg cc2).symm.trans h
      refine lv_swTD (tgt := 103) (ks := [0, 1, 2]) hx hb dX9_constableIs_29 (by decide) (by decide) ⟨cc0, cc1, cc2, trivial⟩ (by decide) ?_
      refine lv_iconst (v := (-1)) hx hb dX9_constableIs_103 (by decide) ?_
      obtain rfl := Option.some.inj h
      exact eI C0 hPD.1 hPD.2 hS rfl dX9_constableIs_104
    · have h := (if_pos cc1).symm.trans h
      refine lv_iconst (v := (-1)) hx hb dX9_constableIs_26 (by decide) ?_
      obtain rfl := Option.some.inj h
      exact eI C0 hPD.1 hPD.2 hS rfl dX9_constableIs_27
end WALK
