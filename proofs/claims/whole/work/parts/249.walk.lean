section WALK
variable {p : Program} {l : Launch} {e : Env} {s : State} {m : MethodId} {args : Array Value} {below : List Frame} {meth : Method} {c : Code} {G : Gp} {DA : Nat → Prop}
set_option maxRecDepth 100000 in
set_option maxHeartbeats 4000000 in
theorem ww_f10_odds_b45  (C0 : Cx cX10_odds 8 (some .int) RX10 p s m args meth c G DA) {h0 : Nat} {a0 : Nat → Nat} {A0 : Nat → Nat → Int32} {p1 : Int32} {p2 : Int32}  {k45 : (Nat → Int32) → Int32 → Int32 → Int32 → Int32 → Option (Int32 × (Nat → Int32))} {res : Int32 × (Nat → Int32)}  (hk45 : ∀ (f0 : Nat → Int32) (l3 : Int32) (l4 : Int32) (l5 : Int32) (l6 : Int32), k45 f0 l3 l4 l5 l6 = some res → ∀ (H : Heap) (locs : List Loc) (ls : Array Slot), WD G DA (wX10 G h0 a0 f0 A0) H → va_S DA s.heap H locs → lv_has ls 8 [(0, .ref h0), (1, .int p1), (2, .int p2), (3, .int l3), (4, .int l4), (5, .int l5), (6, .int l6)] → W p l e rmX10_odds s m args below meth c H locs 0 0 (MQ below (QI G DA res.1 (wX10 G h0 a0 res.2 A0)) args s 0 0 DA) (F0 m 45 ls [])) : ∀ (f0 : Nat → Int32) (l3 : Int32) (l4 : Int32) (l5 : Int32) (l6 : Int32), f10_odds_b45 A0 p1 p2  k45 f0 l3 l4 l5 l6 = some res → ∀ (H : Heap) (locs : List Loc) (ls : Array Slot), WD G DA (wX10 G h0 a0 f0 A0) H → va_S DA s.heap H locs → lv_has ls 8 [(0, .ref h0), (1, .int p1), (2, .int p2), (3, .int l3), (4, .int l4), (5, .int l5), (6, .int l6)] → W p l e rmX10_odds s m args below meth c H locs 0 0 (MQ below (QI G DA res.1 (wX10 G h0 a0 res.2 A0)) args s 0 0 DA) (F0 m 45 ls []) := by
  obtain ⟨hx, hb, hml, hown, hts⟩ := C0.1
  have hK := C0.2.2.2.1
  intro f0 l3 l4 l5 l6 h _ _ _ hPD hS hl
  unfold f10_odds_b45 at h
  refine lv_iload hx hb dX10_odds_45 (lv_at hl 6 rfl) ?_
  refine lv_iload_n hx hb dX10_odds_47 rfl (lv_at hl 1 rfl) ?_
  refine lv_icmp_ge (tgt := 101) hx hb dX10_odds_48 (by decide) (fun cc1 => ?_) (fun cc1 => ?_)
  · have h := (if_pos cc1).symm.trans h
    refine lv_iload_n hx hb dX10_odds_101 rfl (lv_at hl 2 rfl) ?_
    refine lv_iconst (v := 2) hx hb dX10_odds_102 (by decide) ?_
    refine lv_icmp_ge (tgt := 111) hx hb dX10_odds_103 (by decide) (fun cc1 => ?_) (fun cc1 => ?_)
    · have h := (if_pos cc1).symm.trans h
      refine lv_iload_n hx hb dX10_odds_111 rfl (lv_at hl 2 rfl) ?_
      refine lv_iconst (v := 4) hx hb dX10_odds_112 (by decide) ?_
      refine lv_icmp_ge (tgt := 121) hx hb dX10_odds_113 (by decide) (fun cc1 => ?_) (fun cc1 => ?_)
      · have h := (if_pos cc1).symm.trans h
        refine lv_iload_n hx hb dX10_odds_121 rfl (lv_at hl 3 rfl) ?_
        refine lv_iload hx hb dX10_odds_122 (lv_at hl 5 rfl) ?_
        refine lv_isub hx hb dX10_odds_124 ?_
        exact ww_f10_odds_b125 C0 f0 l3 (l3 - l5) h _ _ _ hPD hS (lv_sub hl [0, 1, 2, 3] rfl)
      · have h := (if_neg cc1).symm.trans h
        refine lv_iload hx hb dX10_odds_116 (lv_at hl 5 rfl) ?_
        refine lv_goto (tgt := 125) hx hb dX10_odds_118 (by decide) ?_
        exact ww_f10_odds_b125 C0 f0 l3 l5 h _ _ _ hPD hS (lv_sub hl [0, 1, 2, 3] rfl)
    · have h := (if_neg cc1).symm.trans h
      refine lv_iload hx hb dX10_odds_106 (lv_at hl 4 rfl) ?_
      refine lv_goto (tgt := 125) hx hb dX10_odds_108 (by decide) ?_
      exact ww_f10_odds_b125 C0 f0 l3 l4 h _ _ _ hPD hS (lv_sub hl [0, 1, 2, 3] rfl)
  · have h := (if_neg cc1).symm.trans h
    refine lv_aload_n hx hb dX10_odds_51 rfl (lv_at hl 0 rfl) ?_
    refine lv_iload hx hb dX10_odds_52 (lv_at hl 6 rfl) ?_
    obtain ⟨q_3, hq_3, h⟩ := ob2 h
    refine kVI (As := [.int l6]) (rest := []) C0 (kt_X10_octet l G h0 a0 f0 A0 l6 hq_3) gi_V_X10_360_X10_octet (n := 1) rfl (by decide +kernel) rfl ⟨rfl, rfl, Nat.le_of_ble_eq_true rfl, Nat.le_of_ble_eq_true rfl⟩ hPD hS 0 10 rfl rfl rfl [0, 1, 2, 3, 4, 5, 6, 7, 8, 9, 10, 11, 12, 13, 14, 15, 16, 17, 18, 19, 20, 21, 22, 23, 24, 25, 26, 27, 28, 29, 30, 31, 32, 33] [] [0, 1, 2, 3, 4, 5, 6, 7, 8, 9, 10, 11, 12, 13, 14, 15, 16, 17, 18, 19, 20, 21, 22, 23, 24, 25, 26, 27, 28, 29, 30, 31, 32, 33] (wr := ([] : va_W)) (wN := (wX10 G h0 a0 f0 A0)) rfl rfl rfl rfl rfl hl.1 (Nat.le_of_ble_eq_true rfl) dX10_odds_54 (fun H locs hPD hS => ?_)
    refine lv_bipush (v := 10) hx hb dX10_odds_57 (by decide) ?_
    refine lv_icmp_le (tgt := 65) hx hb dX10_odds_59 (by decide) (fun cc1 => ?_) (fun cc1 => ?_)
    · have h := (if_pos cc1).symm.trans h
      refine lv_iload_n hx hb dX10_odds_65 rfl (lv_at hl 3 rfl) ?_
      refine lv_bipush (v := 10) hx hb dX10_odds_66 (by decide) ?_
      refine lv_imul hx hb dX10_odds_68 ?_
      refine lv_istore_n (lv' := [(3, .int (l3 * 10)), (0, .ref h0), (1, .int p1), (2, .int p2), (4, .int l4), (5, .int l5), (6, .int l6)]) hx hb dX10_odds_69 rfl hl (by decide) rfl (fun ls hl => ?_)
      refine lv_iload hx hb dX10_odds_70 (lv_at hl 4 rfl) ?_
      refine lv_aload_n hx hb dX10_odds_72 rfl (lv_at hl 1 rfl) ?_
      refine lv_iload hx hb dX10_odds_73 (lv_at hl 6 rfl) ?_
      obtain ⟨q_4, hq_4, h⟩ := ob2 h
      refine kVI (As := [.int l6]) (rest := [.int l4]) C0 (kt_X10_octet l G h0 a0 f0 A0 l6 hq_4) gi_V_X10_360_X10_octet (n := 1) rfl (by decide +kernel) rfl ⟨rfl, rfl, Nat.le_of_ble_eq_true rfl, Nat.le_of_ble_eq_true rfl⟩ hPD hS 0 10 rfl rfl rfl [0, 1, 2, 3, 4, 5, 6, 7, 8, 9, 10, 11, 12, 13, 14, 15, 16, 17, 18, 19, 20, 21, 22, 23, 24, 25, 26, 27, 28, 29, 30, 31, 32, 33] [] [0, 1, 2, 3, 4, 5, 6, 7, 8, 9, 10, 11, 12, 13, 14, 15, 16, 17, 18, 19, 20, 21, 22, 23, 24, 25, 26, 27, 28, 29, 30, 31, 32, 33] (wr := ([] : va_W)) (wN := (wX10 G h0 a0 f0 A0)) rfl rfl rfl rfl rfl hl.1 (Nat.le_of_ble_eq_true rfl) dX10_odds_75 (fun H locs hPD hS => ?_)
      refine lv_imul hx hb dX10_odds_78 ?_
      refine lv_istore (lv' := [(4, .int (l4 * q_4)), (3, .int (l3 * 10)), (0, .ref h0), (1, .int p1), (2, .int p2), (5, .int l5), (6, .int l6)]) hx hb dX10_odds_79 hl (by decide) rfl (fun ls hl => ?_)
      refine lv_iload hx hb dX10_odds_81 (lv_at hl 5 rfl) ?_
      refine lv_bipush (v := 10) hx hb dX10_odds_83 (by decide) ?_
      refine lv_aload_n hx hb dX10_odds_85 rfl (lv_at hl 2 rfl) ?_
      refine lv_iload hx hb dX10_odds_86 (lv_at hl 6 rfl) ?_
      obtain ⟨q_5, hq_5, h⟩ := ob2 h
      refine kVI (As := [.int l6]) (rest := [.int 10, .int l5]) C0 (kt_X10_octet l G h0 a0 f0 A0 l6 hq_5) gi_V_X10_360_X10_octet (n := 1) rfl (by decide +kernel) rfl ⟨rfl, rfl, Nat.le_of_ble_eq_true rfl, Nat.le_of_ble_eq_true rfl⟩ hPD hS 0 10 rfl rfl rfl [0, 1, 2, 3, 4, 5, 6, 7, 8, 9, 10, 11, 12, 13, 14, 15, 16, 17, 18, 19, 20, 21, 22, 23, 24, 25, 26, 27, 28, 29, 30, 31, 32, 33] [] [0, 1, 2, 3, 4, 5, 6, 7, 8, 9, 10, 11, 12, 13, 14, 15, 16, 17, 18, 19, 20, 21, 22, 23, 24, 25, 26, 27, 28, 29, 30, 31, 32, 33] (wr := ([] : va_W)) (wN := (wX10 G h0 a0 f0 A0)) rfl rfl rfl rfl rfl hl.1 (Nat.le_of_ble_eq_true rfl) dX10_odds_88 (fun H locs hPD hS => ?_)
      refine lv_isub hx hb dX10_odds_91 ?_
      refine lv_imul hx hb dX10_odds_92 ?_
      refine lv_istore (lv' := [(5, .int (l5 * (10 - q_5))), (4, .int (l4 * q_4)), (3, .int (l3 * 10)), (0, .ref h0), (1, .int p1), (2, .int p2), (6, .int l6)]) hx hb dX10_odds_93 hl (by decide) rfl (fun ls hl => ?_)
      refine lv_iinc (v := l6 + 1) (lv' := [(6, .int (l6 + 1)), (5, .int (l5 * (10 - q_5))), (4, .int (l4 * q_4)), (3, .int (l3 * 10)), (0, .ref h0), (1, .int p1), (2, .int p2)]) hx hb dX10_odds_95 hl (k := 6) rfl rfl (by decide) rfl (fun ls hl => ?_)
      refine lv_goto (tgt := 45) hx hb dX10_odds_98 (by decide) ?_
      exact hk45 f0 (l3 * 10) (l4 * q_4) (l5 * (10 - q_5)) (l6 + 1) h _ _ _ hPD hS (lv_sub hl [4, 5, 6, 3, 2, 1, 0] rfl)
    · have h := (if_neg cc1).symm.trans h
      refine lv_bipush (v := (-2)) hx hb dX10_odds_62 (by decide) ?_
      obtain rfl := Option.some.inj h
      exact eI C0 hPD.1 hPD.2 hS rfl dX10_odds_64
set_option maxRecDepth 100000 in
set_option maxHeartbeats 4000000 in
theorem ww_f10_odds_l45  (C0 : Cx cX10_odds 8 (some .int) RX10 p s m args meth c G DA) {h0 : Nat} {a0 : Nat → Nat} {A0 : Nat → Nat → Int32} {p1 : Int32} {p2 : Int32}   {res : Int32 × (Nat → Int32)}  : ∀ (n : Nat) (f0 : Nat → Int32) (l3 : Int32) (l4 : Int32) (l5 : Int32) (l6 : Int32), f10_odds_l45 A0 p1 p2  n f0 l3 l4 l5 l6 = some res → ∀ (H : Heap) (locs : List Loc) (ls : Array Slot), WD G DA (wX10 G h0 a0 f0 A0) H → va_S DA s.heap H locs → lv_has ls 8 [(0, .ref h0), (1, .int p1), (2, .int p2), (3, .int l3), (4, .int l4), (5, .int l5), (6, .int l6)] → W p l e rmX10_odds s m args below meth c H locs 0 0 (MQ below (QI G DA res.1 (wX10 G h0 a0 res.2 A0)) args s 0 0 DA) (F0 m 45 ls []) := by
  intro n
  induction n with
  | zero => intro f0 l3 l4 l5 l6 h; cases h
  | succ n ih => intro f0 l3 l4 l5 l6 h; exact ww_f10_odds_b45 C0  ih f0 l3 l4 l5 l6 h
set_option maxRecDepth 100000 in
set_option maxHeartbeats 4000000 in
theorem kt_X10_odds (l : Launch) (G : Gp) (h0 : Nat) (a0 : Nat → Nat) (f0 : Nat → Int32) (A0 : Nat → Nat → Int32) (p1 : Int32) (p2 : Int32) : ∀ {r : Int32 × (Nat → Int32)}, f10_odds f0 A0 p1 p2 = some r → CtrI l yX10_odds cX10_odds 8 (some .int) rmX10_odds G [.ref h0, .int p1, .int p2] (wX10 G h0 a0 f0 A0) r.1 (wX10 G h0 a0 r.2 A0) := by
  intro res h
  refine ctrI_of (cc := cX10_odds) (maxL := 8) (ret := (some .int)) (by decide +kernel) rfl (Nat.le_of_ble_eq_true rfl) (fun p e s m below meth c DA C0 hP hD ls hl => ?_)
  have hPD : WD G DA (wX10 G h0 a0 f0 A0) s.heap := ⟨hP, hD⟩
  have hS : va_S DA s.heap s.heap [] := va_S.rf
  have hl : lv_has ls 8 [(0, .ref h0), (1, .int p1), (2, .int p2)] := hl
  obtain ⟨hx, hb, hml, hown, hts⟩ := C0.1
  have hK := C0.2.2.2.1
  unfold f10_odds at h
  refine lv_iload_n hx hb dX10_odds_0 rfl (lv_at hl 1 rfl) ?_
  refine lv_iconst (v := 1) hx hb dX10_odds_1 (by decide) ?_
  refine lv_bipush (v := 9) hx hb dX10_odds_2 (by decide) ?_
  refine kSI (As := [.int p1, .int 1, .int 9]) (rest := []) C0 (kt_X10_in l G  p1 1 9) gi_S_X10_112_X10_in (n := 3) rfl (by decide +kernel) ⟨rfl, rfl, Nat.le_of_ble_eq_true rfl, Nat.le_of_ble_eq_true rfl⟩ hPD hS [] [0, 1, 2, 3, 4, 5, 6, 7, 8, 9, 10, 11, 12, 13, 14, 15, 16, 17, 18, 19, 20, 21, 22, 23, 24, 25, 26, 27, 28, 29, 30, 31, 32, 33] [0, 1, 2, 3, 4, 5, 6, 7, 8, 9, 10, 11, 12, 13, 14, 15, 16, 17, 18, 19, 20, 21, 22, 23, 24, 25, 26, 27, 28, 29, 30, 31, 32, 33] (wr := (wX10 G h0 a0 f0 A0)) (wN := (wX10 G h0 a0 f0 A0)) rfl rfl rfl rfl rfl hl.1 (Nat.le_of_ble_eq_true rfl) dX10_odds_4 (fun H locs hPD hS => ?_)
  refine lv_if_eq (tgt := 27) hx hb dX10_odds_7 (by decide) (fun cc1 => ?_) (fun cc1 => ?_)
  · have h := (if_pos cc1).symm.trans h
    refine lv_iconst (v := (-1)) hx hb dX10_odds_27 (by decide) ?_
    obtain rfl := Option.some.inj h
    exact eI C0 hPD.1 hPD.2 hS rfl dX10_odds_28
  · have h := (if_neg cc1).symm.trans h
    refine lv_iload_n hx hb dX10_odds_10 rfl (lv_at hl 2 rfl) ?_
    refine lv_iconst (v := 0) hx hb dX10_odds_11 (by decide) ?_
    refine lv_iconst (v := 5) hx hb dX10_odds_12 (by decide) ?_
    refine kSI (As := [.int p2, .int 0, .int 5]) (rest := []) C0 (kt_X10_in l G  p2 0 5) gi_S_X10_112_X10_in (n := 3) rfl (by decide +kernel) ⟨rfl, rfl, Nat.le_of_ble_eq_true rfl, Nat.le_of_ble_eq_true rfl⟩ hPD hS [] [0, 1, 2, 3, 4, 5, 6, 7, 8, 9, 10, 11, 12, 13, 14, 15, 16, 17, 18, 19, 20, 21, 22, 23, 24, 25, 26, 27, 28, 29, 30, 31, 32, 33] [0, 1, 2, 3, 4, 5, 6, 7, 8, 9, 10, 11, 12, 13, 14, 15, 16, 17, 18, 19, 20, 21, 22, 23, 24, 25, 26, 27, 28, 29, 30, 31, 32, 33] (wr := (wX10 G h0 a0 f0 A0)) (wN := (wX10 G h0 a0 f0 A0)) rfl rfl rfl rfl rfl hl.1 (Nat.le_of_ble_eq_true rfl) dX10_odds_13 (fun H locs hPD hS => ?_)
    refine lv_if_eq (tgt := 27) hx hb dX10_odds_16 (by decide) (fun cc1 => ?_) (fun cc1 => ?_)
    · have h := (if_pos cc1).symm.trans h
      refine lv_iconst (v := (-1)) hx hb dX10_odds_27 (by decide) ?_
      obtain rfl := Option.some.inj h
      exact eI C0 hPD.1 hPD.2 hS rfl dX10_odds_28
    · have h := (if_neg cc1).symm.trans h
      refine lv_iload_n hx hb dX10_odds_19 rfl (lv_at hl 1 rfl) ?_
      refine lv_aload_n hx hb dX10_odds_20 rfl (lv_at hl 0 rfl) ?_
      refine va_get (D := G.1) (ci := 10) (v := .int (f0 8)) (C := RX10) (T := TX10) (N := 52) hx hb hts inlX10 hown hK hPD.1 0 rfl rfl 8 (by decide) (hts _ gw_546) (fun _ h9 => h9) rfl dX10_odds_21 ?_
      refine lv_icmp_le (tgt := 29) hx hb dX10_odds_24 (by decide) (fun cc1 => ?_) (fun cc1 => ?_)
      · have h := (if_pos cc1).symm.trans h
        refine lv_aload_n hx hb dX10_odds_29 rfl (lv_at hl 0 rfl) ?_
        refine lv_iconst (v := 0) hx hb dX10_odds_30 (by decide) ?_
        refine va_put (D := G.1) (ci := 10) (v := .int 0) (ty := .int) (C := RX10) (T := TX10) (N := 52) hx hb hts inlX10 tyX10 tyX10_ok nmX10 hown hK hPD.1 hPD.2 hS 0 rfl rfl 8 (by decide) (hts _ gw_546) (fun _ h9 => h9) rfl (by decide +kernel) rfl rfl (Nat.le_of_ble_eq_true rfl) dX10_odds_31 (fun H locs hP hD hS => ?_)
        obtain ⟨f0_1, ef0_1, h⟩ := lvl h
        have hPD : WD G DA (wX10 G h0 a0 f0_1 A0) H := by rw [ef0_1]; exact ⟨hP, hD⟩
        clear ef0_1 hP hD
        refine lv_iconst (v := 1) hx hb dX10_odds_34 (by decide) ?_
        refine lv_istore_n (lv' := [(3, .int 1), (0, .ref h0), (1, .int p1), (2, .int p2)]) hx hb dX10_odds_35 rfl hl (by decide) rfl (fun ls hl => ?_)
        refine lv_iconst (v := 1) hx hb dX10_odds_36 (by decide) ?_
        refine lv_istore (lv' := [(4, .int 1), (3, .int 1), (0, .ref h0), (1, .int p1), (2, .int p2)]) hx hb dX10_odds_37 hl (by decide) rfl (fun ls hl => ?_)
        refine lv_iconst (v := 1) hx hb dX10_odds_39 (by decide) ?_
        refine lv_istore (lv' := [(5, .int 1), (4, .int 1), (3, .int 1), (0, .ref h0), (1, .int p1), (2, .int p2)]) hx hb dX10_odds_40 hl (by decide) rfl (fun ls hl => ?_)
        refine lv_iconst (v := 0) hx hb dX10_odds_42 (by decide) ?_
        refine lv_istore (lv' := [(6, .int 0), (5, .int 1), (4, .int 1), (3, .int 1), (0, .ref h0), (1, .int p1), (2, .int p2)]) hx hb dX10_odds_43 hl (by decide) rfl (fun ls hl => ?_)
        exact ww_f10_odds_l45 C0 NF f0_1 1 1 1 0 h _ _ _ hPD hS (lv_sub hl [4, 5, 6, 3, 2, 1, 0] rfl)
      · have h := (if_neg cc1).symm.trans h
        refine lv_iconst (v := (-1)) hx hb dX10_odds_27 (by decide) ?_
        obtain rfl := Option.some.inj h
        exact eI C0 hPD.1 hPD.2 hS rfl dX10_odds_28
abbrev rmX10_seed : Room := { frames := 1, cells := 0, slots := 0, locals := 22 }
set_option maxRecDepth 100000 in
set_option maxHeartbeats 4000000 in
theorem kt_X10_seed (l : Launch) (G : Gp) (h0 : Nat) (a0 : Nat → Nat) (f0 : Nat → Int32) (A0 : Nat → Nat → Int32) (p1 : Int32) : ∀ {r : Int32 × (Nat → Nat → Int32)}, f10_seed f0 A0 p1 = some r → CtrI l yX10_seed cX10_seed 2 (some .boolean) rmX10_seed G [.ref h0, .int p1] (wX10 G h0 a0 f0 A0) r.1 (wX10 G h0 a0 f0 r.2) := by
  intro res h
  refine ctrI_of (cc := cX10_seed) (maxL := 2) (ret := (some .boolean)) (by decide +kernel) rfl (Nat.le_of_ble_eq_true rfl) (fun p e s m below meth c DA C0 hP hD ls hl => ?_)
  have hPD : WD G DA (wX10 G h0 a0 f0 A0) s.heap := ⟨hP, hD⟩
  have hS : va_S DA s.heap s.heap [] := va_S.rf
  have hl : lv_has ls 2 [(0, .ref h0), (1, .int p1)] := hl
  obtain ⟨hx, hb, hml, hown, hts⟩ := C0.1
  have hK := C0.2.2.2.1
  unfold f10_seed at h
  refine lv_iload_n hx hb dX10_seed_0 rfl (lv_at hl 1 rfl) ?_
  refine lv_iconst (v := 0) hx hb dX10_seed_1 (by decide) ?_
  refine lv_ldcw (v := 65535) hx hb hown (hts _ gw_841) dX10_seed_2 ?_
  refine kSI (As := [.int p1, .int 0, .int 65535]) (rest := []) C0 (kt_X10_in l G  p1 0 65535) gi_S_X10_112_X10_in (n := 3) rfl (by decide +kernel) ⟨rfl, rfl, Nat.le_of_ble_eq_true rfl, Nat.le_of_ble_eq_true rfl⟩ hPD hS [] [0, 1, 2, 3, 4, 5, 6, 7, 8, 9, 10, 11, 12, 13, 14, 15, 16, 17, 18, 19, 20, 21, 22, 23, 24, 25, 26, 27, 28, 29, 30, 31, 32, 33] [0, 1, 2, 3, 4, 5, 6, 7, 8, 9, 10, 11, 12, 13, 14, 15, 16, 17, 18, 19, 20, 21, 22, 23, 24, 25, 26, 27, 28, 29, 30, 31, 32, 33] (wr := (wX10 G h0 a0 f0 A0)) (wN := (wX10 G h0 a0 f0 A0)) rfl rfl rfl rfl rfl hl.1 (Nat.le_of_ble_eq_true rfl) dX10_seed_5 (fun H locs hPD hS => ?_)
  refine lv_if_ne (tgt := 13) hx hb dX10_seed_8 (by decide) (fun cc1 => ?_) (fun cc1 => ?_)
  · have h := (if_neg cc1).symm.trans h
    refine lv_aload_n hx hb dX10_seed_13 rfl (lv_at hl 0 rfl) ?_
    refine va_get (D := G.1) (ci := 10) (v := .ref (a0 0)) (C := RX10) (T := TX10) (N := 52) hx hb hts inlX10 hown hK hPD.1 0 rfl rfl 0 (by decide) (hts _ gw_536) (fun _ h9 => h9) rfl dX10_seed_14 ?_
    refine lv_bipush (v := 75) hx hb dX10_seed_17 (by decide) ?_
    refine lv_iload_n hx hb dX10_seed_19 rfl (lv_at hl 1 rfl) ?_
    refine va_iast hx hb hK hPD.1 hPD.2 hS 1 1 rfl rfl (vin rfl) dX10_seed_20 (fun H locs hP hD hS => ?_)
    obtain ⟨A0_1, eA0_1, h⟩ := lvl h
    have hPD : WD G DA (wX10 G h0 a0 f0 A0_1) H := by rw [eA0_1]; exact ⟨hP, hD⟩
    clear eA0_1 hP hD
    refine lv_iconst (v := 1) hx hb dX10_seed_21 (by decide) ?_
    obtain rfl := Option.some.inj h
    exact eZ C0 hPD.1 hPD.2 hS rfl rfl dX10_seed_22
  · have h := (if_pos cc1).symm.trans h
    refine lv_iconst (v := 0) hx hb dX10_seed_11 (by decide) ?_
    obtain rfl := Option.some.inj h
    exact eZ C0 hPD.1 hPD.2 hS rfl rfl dX10_seed_12
abbrev rmX10_keep : Room := { frames := 1, cells := 0, slots := 0, locals := 22 }
set_option maxRecDepth 100000 in
set_option maxHeartbeats 4000000 in
theorem kt_X10_keep (l : Launch) (G : Gp) (h0 : Nat) (a0 : Nat → Nat) (f0 : Nat → Int32) (A0 : Nat → Nat → Int32) : ∀ {r : Int32 × (Nat → Nat → Int32) × (Nat → Int32)}, f10_keep f0 A0 = some r → CtrI l yX10_keep cX10_keep 1 (some .int) rmX10_keep G [.ref h0] (wX10 G h0 a0 f0 A0) r.1 (wX10 G h0 a0 r.2.2 r.2.1) := by
  intro res h
  refine ctrI_of (cc := cX10_keep) (maxL := 1) (ret := (some .int)) (by decide +kernel) rfl (Nat.le_of_ble_eq_true rfl) (fun p e s m below meth c DA C0 hP hD ls hl => ?_)
  have hPD : WD G DA (wX10 G h0 a0 f0 A0) s.heap := ⟨hP, hD⟩
  have hS : va_S DA s.heap s.heap [] := va_S.rf
  have hl : lv_has ls 1 [(0, .ref h0)] := hl
  obtain ⟨hx, hb, hml, hown, hts⟩ := C0.1
  have hK := C0.2.2.2.1
  unfold f10_keep at h
  refine lv_aload_n hx hb dX10_keep_0 rfl (lv_at hl 0 rfl) ?_
  refine lv_iconst (v := 1) hx hb dX10_keep_1 (by decide) ?_
  refine va_put (D := G.1) (ci := 10) (v := .int 1) (ty := .boolean) (C := RX10) (T := TX10) (N := 52) hx hb hts inlX10 tyX10 tyX10_ok nmX10 hown hK hPD.1 hPD.2 hS 0 rfl rfl 51 (by decide) (hts _ gw_842) (fun _ h9 => h9) rfl (by decide +kernel) rfl rfl (Nat.le_of_ble_eq_true rfl) dX10_keep_2 (fun H locs hP hD hS => ?_)
  obtain ⟨f0_1, ef0_1, h⟩ := lvl h
  have hPD : WD G DA (wX10 G h0 a0 f0_1 A0) H := by rw [ef0_1]; exact ⟨hP, hD⟩
  clear ef0_1 hP hD
  refine lv_aload_n hx hb dX10_keep_5 rfl (lv_at hl 0 rfl) ?_
  refine va_get (D := G.1) (ci := 10) (v := .ref (a0 0)) (C := RX10) (T := TX10) (N := 52) hx hb hts inlX10 hown hK hPD.1 0 rfl rfl 0 (by decide) (hts _ gw_536) (fun _ h9 => h9) rfl dX10_keep_6 ?_
  refine lv_aload_n hx hb dX10_keep_9 rfl (lv_at hl 0 rfl) ?_
  refine va_get (D := G.1) (ci := 10) (v := .ref (a0 2)) (C := RX10) (T := TX10) (N := 52) hx hb hts inlX10 hown hK hPD.1 0 rfl rfl 2 (by decide) (hts _ gw_843) (fun _ h9 => h9) rfl dX10_keep_10 ?_
  obtain ⟨q_2, hq_2, h⟩ := ob2 h
  refine kSV (As := [.ref (a0 0), .ref (a0 2)]) (rest := []) C0 (kt_X10_copies l G (a0 0) (a0 2) 76 (A0 0) 76 (A0 2) (by decide) (by decide) hq_2) gi_S_X10_290_X10_copies (n := 2) rfl (by decide +kernel) ⟨rfl, rfl, Nat.le_of_ble_eq_true rfl, Nat.le_of_ble_eq_true rfl⟩ hPD hS [1, 3] [0, 2, 4, 5, 6, 7, 8, 9, 10, 11, 12, 13, 14, 15, 16, 17, 18, 19, 20, 21, 22, 23, 24, 25, 26, 27, 28, 29, 30, 31, 32, 33] [0, 32, 1, 33, 2, 3, 4, 5, 6, 7, 8, 9, 10, 11, 12, 13, 14, 15, 16, 17, 18, 19, 20, 21, 22, 23, 24, 25, 26, 27, 28, 29, 30, 31] (wr := pick (wX10 G h0 a0 f0_1 A0) [0, 2, 4, 5, 6, 7, 8, 9, 10, 11, 12, 13, 14, 15, 16, 17, 18, 19, 20, 21, 22, 23, 24, 25, 26, 27, 28, 29, 30, 31, 32, 33]) (wN := (wX10 G h0 a0 f0_1 (updA A0 2 q_2))) rfl rfl rfl rfl rfl hl.1 (Nat.le_of_ble_eq_true rfl) dX10_keep_13 (fun H locs hPD hS => ?_)
  obtain ⟨A0_3, eA0_3, h⟩ := lvl h
  have hPD : WD G DA (wX10 G h0 a0 f0_1 A0_3) H := by rw [eA0_3]; exact hPD
  clear eA0_3
  refine lv_aload_n hx hb dX10_keep_16 rfl (lv_at hl 0 rfl) ?_
  refine va_get (D := G.1) (ci := 10) (v := .ref (a0 0)) (C := RX10) (T := TX10) (N := 52) hx hb hts inlX10 hown hK hPD.1 0 rfl rfl 0 (by decide) (hts _ gw_536) (fun _ h9 => h9) rfl dX10_keep_17 ?_
  refine lv_bipush (v := 74) hx hb dX10_keep_20 (by decide) ?_
  refine va_iald hx hb hK hPD.1 1 1 rfl rfl (vin rfl) dX10_keep_22 ?_
  obtain rfl := Option.some.inj h
  exact eI C0 hPD.1 hPD.2 hS rfl dX10_keep_23
abbrev rmX10_undo : Room := { frames := 1, cells := 0, slots := 0, locals := 22 }
set_option maxRecDepth 100000 in
set_option maxHeartbeats 4000000 in
theorem kt_X10_undo (l : Launch) (G : Gp) (h0 : Nat) (a0 : Nat → Nat) (f0 : Nat → Int32) (A0 : Nat → Nat → Int32) : ∀ {r : Int32 × (Nat → Nat → Int32)}, f10_undo f0 A0 = some r → CtrI l yX10_undo cX10_undo 1 (some .boolean) rmX10_undo G [.ref h0] (wX10 G h0 a0 f0 A0) r.1 (wX10 G h0 a0 f0 r.2) := by
  intro res h
  refine ctrI_of (cc := cX10_undo) (maxL := 1) (ret := (some .boolean)) (by decide +kernel) rfl (Nat.le_of_ble_eq_true rfl) (fun p e s m below meth c DA C0 hP hD ls hl => ?_)
  have hPD : WD G DA (wX10 G h0 a0 f0 A0) s.heap := ⟨hP, hD⟩
  have hS : va_S DA s.heap s.heap [] := va_S.rf
  have hl : lv_has ls 1 [(0, .ref h0)] := hl
  obtain ⟨hx, hb, hml, hown, hts⟩ := C0.1
  have hK := C0.2.2.2.1
  unfold f10_undo at h
  refine lv_aload_n hx hb dX10_undo_0 rfl (lv_at hl 0 rfl) ?_
  refine va_get (D := G.1) (ci := 10) (v := .int (f0 51)) (C := RX10) (T := TX10) (N := 52) hx hb hts inlX10 hown hK hPD.1 0 rfl rfl 51 (by decide) (hts _ gw_842) (fun _ h9 => h9) rfl dX10_undo_1 ?_
  refine lv_if_ne (tgt := 9) hx hb dX10_undo_4 (by decide) (fun cc1 => ?_) (fun cc1 => ?_)
  · have h := (if_neg cc1).symm.trans h
    refine lv_aload_n hx hb dX10_undo_9 rfl (lv_at hl 0 rfl) ?_
    refine va_get (D := G.1) (ci := 10) (v := .ref (a0 2)) (C := RX10) (T := TX10) (N := 52) hx hb hts inlX10 hown hK hPD.1 0 rfl rfl 2 (by decide) (hts _ gw_843) (fun _ h9 => h9) rfl dX10_undo_10 ?_
    refine lv_aload_n hx hb dX10_undo_13 rfl (lv_at hl 0 rfl) ?_
    refine va_get (D := G.1) (ci := 10) (v := .ref (a0 0)) (C := RX10) (T := TX10) (N := 52) hx hb hts inlX10 hown hK hPD.1 0 rfl rfl 0 (by decide) (hts _ gw_536) (fun _ h9 => h9) rfl dX10_undo_14 ?_
    obtain ⟨q_1, hq_1, h⟩ := ob2 h
    refine kSV (As := [.ref (a0 2), .ref (a0 0)]) (rest := []) C0 (kt_X10_copies l G (a0 2) (a0 0) 76 (A0 2) 76 (A0 0) (by decide) (by decide) hq_1) gi_S_X10_290_X10_copies (n := 2) rfl (by decide +kernel) ⟨rfl, rfl, Nat.le_of_ble_eq_true rfl, Nat.le_of_ble_eq_true rfl⟩ hPD hS [3, 1] [0, 2, 4, 5, 6, 7, 8, 9, 10, 11, 12, 13, 14, 15, 16, 17, 18, 19, 20, 21, 22, 23, 24, 25, 26, 27, 28, 29, 30, 31, 32, 33] [0, 33, 1, 32, 2, 3, 4, 5, 6, 7, 8, 9, 10, 11, 12, 13, 14, 15, 16, 17, 18, 19, 20, 21, 22, 23, 24, 25, 26, 27, 28, 29, 30, 31] (wr := pick (wX10 G h0 a0 f0 A0) [0, 2, 4, 5, 6, 7, 8, 9, 10, 11, 12, 13, 14, 15, 16, 17, 18, 19, 20, 21, 22, 23, 24, 25, 26, 27, 28, 29, 30, 31, 32, 33]) (wN := (wX10 G h0 a0 f0 (updA A0 0 q_1))) rfl rfl rfl rfl rfl hl.1 (Nat.le_of_ble_eq_true rfl) dX10_undo_17 (fun H locs hPD hS => ?_)
    obtain ⟨A0_2, eA0_2, h⟩ := lvl h
    have hPD : WD G DA (wX10 G h0 a0 f0 A0_2) H := by rw [eA0_2]; exact hPD
    clear eA0_2
    refine lv_iconst (v := 1) hx hb dX10_undo_20 (by decide) ?_
    obtain rfl := Option.some.inj h
    exact eZ C0 hPD.1 hPD.2 hS rfl rfl dX10_undo_21
  · have h := (if_pos cc1).symm.trans h
    refine lv_iconst (v := 0) hx hb dX10_undo_7 (by decide) ?_
    obtain rfl := Option.some.inj h
    exact eZ C0 hPD.1 hPD.2 hS rfl rfl dX10_undo_8
abbrev rmX10_check : Room := { frames := 2, cells := 0, slots := 0, locals := 43 }
set_option maxRecDepth 100000 in
set_option maxHeartbeats 4000000 in
theorem ww_f10_check_b28  (C0 : Cx cX10_check 3 (some .int) RX10 p s m args meth c G DA) {h0 : Nat} {a0 : Nat → Nat} {A0 : Nat → Nat → Int32} {p1 : Int32}  {k28 : (Nat → Int32) → Int32 → Option (Int32 × (Nat → Int32))} {res : Int32 × (Nat → Int32)}  (hk28 : ∀ (f0 : Nat → Int32) (l2 : Int32), k28 f0 l2 = some res → ∀ (H : Heap) (locs : List Loc) (ls : Array Slot), WD G DA (wX10 G h0 a0 f0 A0) H → va_S DA s.heap H locs → lv_has ls 3 [(0, .ref h0), (1, .int p1), (2, .int l2)] → W p l e rmX10_check s m args below meth c H locs 0 0 (MQ below (QI G DA res.1 (wX10 G h0 a0 res.2 A0)) args s 0 0 DA) (F0 m 28 ls [])) : ∀ (f0 : Nat → Int32) (l2 : Int32), f10_check_b28 A0 p1  k28 f0 l2 = some res → ∀ (H : Heap) (locs : List Loc) (ls : Array Slot), WD G DA (wX10 G h0 a0 f0 A0) H → va_S DA s.heap H locs → lv_has ls 3 [(0, .ref h0), (1, .int p1), (2, .int l2)] → W p l e rmX10_check s m args below meth c H locs 0 0 (MQ below (QI G DA res.1 (wX10 G h0 a0 res.2 A0)) args s 0 0 DA) (F0 m 28 ls []) := by
  obtain ⟨hx, hb, hml, hown, hts⟩ := C0.1
  have hK := C0.2.2.2.1
  intro f0 l2 h _ _ _ hPD hS hl
  unfold f10_check_b28 at h
  refine lv_iload_n hx hb dX10_check_28 rfl (lv_at hl 2 rfl) ?_
  refine lv_iload_n hx hb dX10_check_29 rfl (lv_at hl 1 rfl) ?_
  refine lv_icmp_ge (tgt := 71) hx hb dX10_check_30 (by decide) (fun cc1 => ?_) (fun cc1 => ?_)
  · have h := (if_pos cc1).symm.trans h
    refine lv_iconst (v := (-1)) hx hb dX10_check_71 (by decide) ?_
    obtain rfl := Option.some.inj h
    exact eI C0 hPD.1 hPD.2 hS rfl dX10_check_72
  · have h := (if_neg cc1).symm.trans h
    refine lv_aload_n hx hb dX10_check_33 rfl (lv_at hl 0 rfl) ?_
    refine lv_iload_n hx hb dX10_check_34 rfl (lv_at hl 2 rfl) ?_
    obtain ⟨q_2, hq_2, h⟩ := ob2 h
    refine kVI (As := [.int l2]) (rest := []) C0 (kt_X10_octet l G h0 a0 f0 A0 l2 hq_2) gi_V_X10_360_X10_octet (n := 1) rfl (by decide +kernel) rfl ⟨rfl, rfl, Nat.le_of_ble_eq_true rfl, Nat.le_of_ble_eq_true rfl⟩ hPD hS 0 10 rfl rfl rfl [0, 1, 2, 3, 4, 5, 6, 7, 8, 9, 10, 11, 12, 13, 14, 15, 16, 17, 18, 19, 20, 21, 22, 23, 24, 25, 26, 27, 28, 29, 30, 31, 32, 33] [] [0, 1, 2, 3, 4, 5, 6, 7, 8, 9, 10, 11, 12, 13, 14, 15, 16, 17, 18, 19, 20, 21, 22, 23, 24, 25, 26, 27, 28, 29, 30, 31, 32, 33] (wr := ([] : va_W)) (wN := (wX10 G h0 a0 f0 A0)) rfl rfl rfl rfl rfl hl.1 (Nat.le_of_ble_eq_true rfl) dX10_check_35 (fun H locs hPD hS => ?_)
    refine lv_aload_n hx hb dX10_check_38 rfl (lv_at hl 0 rfl) ?_
    refine lv_iload_n hx hb dX10_check_39 rfl (lv_at hl 2 rfl) ?_
    refine kVI (As := [.int l2]) (rest := [.int q_2]) C0 (kt_X10_isTold l G h0 a0 f0 A0 l2) gi_V_X10_128_X10_isTold (n := 1) rfl (by decide +kernel) rfl ⟨rfl, rfl, Nat.le_of_ble_eq_true rfl, Nat.le_of_ble_eq_true rfl⟩ hPD hS 0 10 rfl rfl rfl [0, 1, 2, 3, 4, 5, 6, 7, 8, 9, 10, 11, 12, 13, 14, 15, 16, 17, 18, 19, 20, 21, 22, 23, 24, 25, 26, 27, 28, 29, 30, 31, 32, 33] [] [0, 1, 2, 3, 4, 5, 6, 7, 8, 9, 10, 11, 12, 13, 14, 15, 16, 17, 18, 19, 20, 21, 22, 23, 24, 25, 26, 27, 28, 29, 30, 31, 32, 33] (wr := ([] : va_W)) (wN := (wX10 G h0 a0 f0 A0)) rfl rfl rfl rfl rfl hl.1 (Nat.le_of_ble_eq_true rfl) dX10_check_40 (fun H locs hPD hS => ?_)
    refine lv_if_eq (tgt := 57) hx hb dX10_check_43 (by decide) (fun cc1 => ?_) (fun cc1 => ?_)
    · have h := (if_pos cc1).symm.trans h
      refine lv_sipush (v := 255) hx hb dX10_check_57 (by decide) ?_
      refine lv_icmp_eq (tgt := 65) hx hb dX10_check_60 (by decide) (fun cc1 => ?_) (fun cc1 => ?_)
      · have h := (if_pos cc1).symm.trans h
        refine lv_iinc (v := l2 + 1) (lv' := [(2, .int (l2 + 1)), (0, .ref h0), (1, .int p1)]) hx hb dX10_check_65 hl (k := 2) rfl rfl (by decide) rfl (fun ls hl => ?_)
        refine lv_goto (tgt := 28) hx hb dX10_check_68 (by decide) ?_
        exact hk28 f0 (l2 + 1) h _ _ _ hPD hS (lv_sub hl [1, 2, 0] rfl)
      · have h := (if_neg cc1).symm.trans h
        refine lv_iload_n hx hb dX10_check_63 rfl (lv_at hl 2 rfl) ?_
        obtain rfl := Option.some.inj h
        exact eI C0 hPD.1 hPD.2 hS rfl dX10_check_64
    · have h := (if_neg cc1).symm.trans h
      refine lv_aload_n hx hb dX10_check_46 rfl (lv_at hl 0 rfl) ?_
      refine va_get (D := G.1) (ci := 10) (v := .ref (a0 0)) (C := RX10) (T := TX10) (N := 52) hx hb hts inlX10 hown hK hPD.1 0 rfl rfl 0 (by decide) (hts _ gw_536) (fun _ h9 => h9) rfl dX10_check_47 ?_
      refine lv_iconst (v := 0) hx hb dX10_check_50 (by decide) ?_
      refine lv_iload_n hx hb dX10_check_51 rfl (lv_at hl 2 rfl) ?_
      refine lv_iadd hx hb dX10_check_52 ?_
      obtain ⟨hi_3, h⟩ := ob h
      refine va_iald hx hb hK hPD.1 1 1 rfl rfl hi_3 dX10_check_53 ?_
      refine lv_goto (tgt := 60) hx hb dX10_check_54 (by decide) ?_
      refine lv_icmp_eq (tgt := 65) hx hb dX10_check_60 (by decide) (fun cc1 => ?_) (fun cc1 => ?_)
      · have h := (if_pos cc1).symm.trans h
        refine lv_iinc (v := l2 + 1) (lv' := [(2, .int (l2 + 1)), (0, .ref h0), (1, .int p1)]) hx hb dX10_check_65 hl (k := 2) rfl rfl (by decide) rfl (fun ls hl => ?_)
        refine lv_goto (tgt := 28) hx hb dX10_check_68 (by decide) ?_
        exact hk28 f0 (l2 + 1) h _ _ _ hPD hS (lv_sub hl [1, 2, 0] rfl)
      · have h := (if_neg cc1).symm.trans h
        refine lv_iload_n hx hb dX10_check_63 rfl (lv_at hl 2 rfl) ?_
        obtain rfl := Option.some.inj h
        exact eI C0 hPD.1 hPD.2 hS rfl dX10_check_64
set_option maxRecDepth 100000 in
set_option maxHeartbeats 4000000 in
theorem ww_f10_check_l28  (C0 : Cx cX10_check 3 (some .int) RX10 p s m args meth c G DA) {h0 : Nat} {a0 : Nat → Nat} {A0 : Nat → Nat → Int32} {p1 : Int32}   {res : Int32 × (Nat → Int32)}  : ∀ (n : Nat) (f0 : Nat → Int32) (l2 : Int32), f10_check_l28 A0 p1  n f0 l2 = some res → ∀ (H : Heap) (locs : List Loc) (ls : Array Slot), WD G DA (wX10 G h0 a0 f0 A0) H → va_S DA s.heap H locs → lv_has ls 3 [(0, .ref h0), (1, .int p1), (2, .int l2)] → W p l e rmX10_check s m args below meth c H locs 0 0 (MQ below (QI G DA res.1 (wX10 G h0 a0 res.2 A0)) args s 0 0 DA) (F0 m 28 ls []) := by
  intro n
  induction n with
  | zero => intro f0 l2 h; cases h
  | succ n ih => intro f0 l2 h; exact ww_f10_check_b28 C0  ih f0 l2 h
set_option maxRecDepth 100000 in
set_option maxHeartbeats 4000000 in
theorem kt_X10_check (l : Launch) (G : Gp) (h0 : Nat) (a0 : Nat → Nat) (f0 : Nat → Int32) (A0 : Nat → Nat → Int32) (p1 : Int32) : ∀ {r : Int32 × (Nat → Int32)}, f10_check f0 A0 p1 = some r → CtrI l yX10_check cX10_check 3 (some .int) rmX10_check G [.ref h0, .int p1] (wX10 G h0 a0 f0 A0) r.1 (wX10 G h0 a0 r.2 A0) := by
  intro res h
  refine ctrI_of (cc := cX10_check) (maxL := 3) (ret := (some .int)) (by decide +kernel) rfl (Nat.le_of_ble_eq_true rfl) (fun p e s m below meth c DA C0 hP hD ls hl => ?_)
  have hPD : WD G DA (wX10 G h0 a0 f0 A0) s.heap := ⟨hP, hD⟩
  have hS : va_S DA s.heap s.heap [] := va_S.rf
  have hl : lv_has ls 3 [(0, .ref h0), (1, .int p1)] := hl
  obtain ⟨hx, hb, hml, hown, hts⟩ := C0.1
  have hK := C0.2.2.2.1
  unfold f10_check at h
  refine lv_iload_n hx hb dX10_check_0 rfl (lv_at hl 1 rfl) ?_
  refine lv_iconst (v := 0) hx hb dX10_check_1 (by decide) ?_
  refine lv_bipush (v := 16) hx hb dX10_check_2 (by decide) ?_
  refine kSI (As := [.int p1, .int 0, .int 16]) (rest := []) C0 (kt_X10_in l G  p1 0 16) gi_S_X10_112_X10_in (n := 3) rfl (by decide +kernel) ⟨rfl, rfl, Nat.le_of_ble_eq_true rfl, Nat.le_of_ble_eq_true rfl⟩ hPD hS [] [0, 1, 2, 3, 4, 5, 6, 7, 8, 9, 10, 11, 12, 13, 14, 15, 16, 17, 18, 19, 20, 21, 22, 23, 24, 25, 26, 27, 28, 29, 30, 31, 32, 33] [0, 1, 2, 3, 4, 5, 6, 7, 8, 9, 10, 11, 12, 13, 14, 15, 16, 17, 18, 19, 20, 21, 22, 23, 24, 25, 26, 27, 28, 29, 30, 31, 32, 33] (wr := (wX10 G h0 a0 f0 A0)) (wN := (wX10 G h0 a0 f0 A0)) rfl rfl rfl rfl rfl hl.1 (Nat.le_of_ble_eq_true rfl) dX10_check_4 (fun H locs hPD hS => ?_)
  refine lv_if_eq (tgt := 18) hx hb dX10_check_7 (by decide) (fun cc1 => ?_) (fun cc1 => ?_)
  · have h := (if_pos cc1).symm.trans h
    refine lv_bipush (v := (-2)) hx hb dX10_check_18 (by decide) ?_
    obtain rfl := Option.some.inj h
    exact eI C0 hPD.1 hPD.2 hS rfl dX10_check_20
  · have h := (if_neg cc1).symm.trans h
    refine lv_iload_n hx hb dX10_check_10 rfl (lv_at hl 1 rfl) ?_
    refine lv_aload_n hx hb dX10_check_11 rfl (lv_at hl 0 rfl) ?_
    refine va_get (D := G.1) (ci := 10) (v := .int (f0 8)) (C := RX10) (T := TX10) (N := 52) hx hb hts inlX10 hown hK hPD.1 0 rfl rfl 8 (by decide) (hts _ gw_546) (fun _ h9 => h9) rfl dX10_check_12 ?_
    refine lv_icmp_le (tgt := 21) hx hb dX10_check_15 (by decide) (fun cc1 => ?_) (fun cc1 => ?_)
    · have h := (if_pos cc1).symm.trans h
      refine lv_aload_n hx hb dX10_check_21 rfl (lv_at hl 0 rfl) ?_
      refine lv_iconst (v := 0) hx hb dX10_check_22 (by decide) ?_
      refine va_put (D := G.1) (ci := 10) (v := .int 0) (ty := .int) (C := RX10) (T := TX10) (N := 52) hx hb hts inlX10 tyX10 tyX10_ok nmX10 hown hK hPD.1 hPD.2 hS 0 rfl rfl 8 (by decide) (hts _ gw_546) (fun _ h9 => h9) rfl (by decide +kernel) rfl rfl (Nat.le_of_ble_eq_true rfl) dX10_check_23 (fun H locs hP hD hS => ?_)
      obtain ⟨f0_1, ef0_1, h⟩ := lvl h
      have hPD : WD G DA (wX10 G h0 a0 f0_1 A0) H := by rw [ef0_1]; exact ⟨hP, hD⟩
      clear ef0_1 hP hD
      refine lv_iconst (v := 0) hx hb dX10_check_26 (by decide) ?_
      refine lv_istore_n (lv' := [(2, .int 0), (0, .ref h0), (1, .int p1)]) hx hb dX10_check_27 rfl hl (by decide) rfl (fun ls hl => ?_)
      exact ww_f10_check_l28 C0 NF f0_1 0 h _ _ _ hPD hS (lv_sub hl [1, 2, 0] rfl)
    · have h := (if_neg cc1).symm.trans h
      refine lv_bipush (v := (-2)) hx hb dX10_check_18 (by decide) ?_
      obtain rfl := Option.some.inj h
      exact eI C0 hPD.1 hPD.2 hS rfl dX10_check_20
abbrev rmX10_menSet : Room := { frames := 2, cells := 0, slots := 0, locals := 43 }
set_option maxRecDepth 100000 in
set_option maxHeartbeats 4000000 in
theorem ww_f10_menSet_b4  (C0 : Cx cX10_menSet 3 (some .int) RX10 p s m args meth c G DA) {h0 : Nat} {a0 : Nat → Nat} {f0 : Nat → Int32} {A0 : Nat → Nat → Int32}  {k4 : Int32 → Int32 → Option (Int32)} {res : Int32}  (hk4 : ∀ (l1 : Int32) (l2 : Int32), k4 l1 l2 = some res → ∀ (H : Heap) (locs : List Loc) (ls : Array Slot), WD G DA (wX10 G h0 a0 f0 A0) H → va_S DA s.heap H locs → lv_has ls 3 [(0, .ref h0), (1, .int l1), (2, .int l2)] → W p l e rmX10_menSet s m args below meth c H locs 0 0 (MQ below (QI G DA res (wX10 G h0 a0 f0 A0)) args s 0 0 DA) (F0 m 4 ls [])) : ∀ (l1 : Int32) (l2 : Int32), f10_menSet_b4 f0 A0  k4 l1 l2 = some res → ∀ (H : Heap) (locs : List Loc) (ls : Array Slot), WD G DA (wX10 G h0 a0 f0 A0) H → va_S DA s.heap H locs → lv_has ls 3 [(0, .ref h0), (1, .int l1), (2, .int l2)] → W p l e rmX10_menSet s m args below meth c H locs 0 0 (MQ below (QI G DA res (wX10 G h0 a0 f0 A0)) args s 0 0 DA) (F0 m 4 ls []) := by
  obtain ⟨hx, hb, hml, hown, hts⟩ := C0.1
  have hK := C0.2.2.2.1
  intro l1 l2 h _ _ _ hPD hS hl
  unfold f10_menSet_b4 at h
  refine lv_iload_n hx hb dX10_menSet_4 rfl (lv_at hl 2 rfl) ?_
  refine lv_bipush (v := 8) hx hb dX10_menSet_5 (by decide) ?_
  refine lv_icmp_ge (tgt := 30) hx hb dX10_menSet_7 (by decide) (fun cc1 => ?_) (fun cc1 => ?_)
  · have h := (if_pos cc1).symm.trans h
    refine lv_iload_n hx hb dX10_menSet_30 rfl (lv_at hl 1 rfl) ?_
    obtain rfl := Option.some.inj h
    exact eI C0 hPD.1 hPD.2 hS rfl dX10_menSet_31
  · have h := (if_neg cc1).symm.trans h
    refine lv_aload_n hx hb dX10_menSet_10 rfl (lv_at hl 0 rfl) ?_
    refine lv_iload_n hx hb dX10_menSet_11 rfl (lv_at hl 2 rfl) ?_
    obtain ⟨q_1, hq_1, h⟩ := ob2 h
    refine kVI (As := [.int l2]) (rest := []) C0 (kt_X10_isMan l G h0 a0 f0 A0 l2 hq_1) gi_V_X10_124_X10_isMan (n := 1) rfl (by decide +kernel) rfl ⟨rfl, rfl, Nat.le_of_ble_eq_true rfl, Nat.le_of_ble_eq_true rfl⟩ hPD hS 0 10 rfl rfl rfl [0, 1, 2, 3, 4, 5, 6, 7, 8, 9, 10, 11, 12, 13, 14, 15, 16, 17, 18, 19, 20, 21, 22, 23, 24, 25, 26, 27, 28, 29, 30, 31, 32, 33] [] [0, 1, 2, 3, 4, 5, 6, 7, 8, 9, 10, 11, 12, 13, 14, 15, 16, 17, 18, 19, 20, 21, 22, 23, 24, 25, 26, 27, 28, 29, 30, 31, 32, 33] (wr := ([] : va_W)) (wN := (wX10 G h0 a0 f0 A0)) rfl rfl rfl rfl rfl hl.1 (Nat.le_of_ble_eq_true rfl) dX10_menSet_12 (fun H locs hPD hS => ?_)
    refine lv_if_eq (tgt := 24) hx hb dX10_menSet_15 (by decide) (fun cc1 => ?_) (fun cc1 => ?_)
    · have h := (if_pos cc1).symm.trans h
      refine lv_iinc (v := l2 + 1) (lv' := [(2, .int (l2 + 1)), (0, .ref h0), (1, .int l1)]) hx hb dX10_menSet_24 hl (k := 2) rfl rfl (by decide) rfl (fun ls hl => ?_)
      refine lv_goto (tgt := 4) hx hb dX10_menSet_27 (by decide) ?_
      exact hk4 l1 (l2 + 1) h _ _ _ hPD hS (lv_sub hl [1, 2, 0] rfl)
    · have h := (if_neg cc1).symm.trans h
      refine lv_iload_n hx hb dX10_menSet_18 rfl (lv_at hl 1 rfl) ?_
      refine lv_iconst (v := 1) hx hb dX10_menSet_19 (by decide) ?_
      refine lv_iload_n hx hb dX10_menSet_20 rfl (lv_at hl 2 rfl) ?_
      refine lv_ishl hx hb dX10_menSet_21 ?_
      refine lv_ior hx hb dX10_menSet_22 ?_
      refine lv_istore_n (lv' := [(1, .int (l1 ||| (shl 1 l2))), (0, .ref h0), (2, .int l2)]) hx hb dX10_menSet_23 rfl hl (by decide) rfl (fun ls hl => ?_)
      refine lv_iinc (v := l2 + 1) (lv' := [(2, .int (l2 + 1)), (1, .int (l1 ||| (shl 1 l2))), (0, .ref h0)]) hx hb dX10_menSet_24 hl (k := 2) rfl rfl (by decide) rfl (fun ls hl => ?_)
      refine lv_goto (tgt := 4) hx hb dX10_menSet_27 (by decide) ?_
      exact hk4 (l1 ||| (shl 1 l2)) (l2 + 1) h _ _ _ hPD hS (lv_sub hl [2, 1, 0] rfl)
set_option maxRecDepth 100000 in
set_option maxHeartbeats 4000000 in
theorem ww_f10_menSet_l4  (C0 : Cx cX10_menSet 3 (some .int) RX10 p s m args meth c G DA) {h0 : Nat} {a0 : Nat → Nat} {f0 : Nat → Int32} {A0 : Nat → Nat → Int32}   {res : Int32}  : ∀ (n : Nat) (l1 : Int32) (l2 : Int32), f10_menSet_l4 f0 A0  n l1 l2 = some res → ∀ (H : Heap) (locs : List Loc) (ls : Array Slot), WD G DA (wX10 G h0 a0 f0 A0) H → va_S DA s.heap H locs → lv_has ls 3 [(0, .ref h0), (1, .int l1), (2, .int l2)] → W p l e rmX10_menSet s m args below meth c H locs 0 0 (MQ below (QI G DA res (wX10 G h0 a0 f0 A0)) args s 0 0 DA) (F0 m 4 ls []) := by
  intro n
  induction n with
  | zero => intro l1 l2 h; cases h
  | succ n ih => intro l1 l2 h; exact ww_f10_menSet_b4 C0  ih l1 l2 h
set_option maxRecDepth 100000 in
set_option maxHeartbeats 4000000 in
theorem kt_X10_menSet (l : Launch) (G : Gp) (h0 : Nat) (a0 : Nat → Nat) (f0 : Nat → Int32) (A0 : Nat → Nat → Int32) : ∀ {r : Int32}, f10_menSet f0 A0 = some r → CtrI l yX10_menSet cX10_menSet 3 (some .int) rmX10_menSet G [.ref h0] (wX10 G h0 a0 f0 A0) r (wX10 G h0 a0 f0 A0) := by
  intro res h
  refine ctrI_of (cc := cX10_menSet) (maxL := 3) (ret := (some .int)) (by decide +kernel) rfl (Nat.le_of_ble_eq_true rfl) (fun p e s m below meth c DA C0 hP hD ls hl => ?_)
  have hPD : WD G DA (wX10 G h0 a0 f0 A0) s.heap := ⟨hP, hD⟩
  have hS : va_S DA s.heap s.heap [] := va_S.rf
  have hl : lv_has ls 3 [(0, .ref h0)] := hl
  obtain ⟨hx, hb, hml, hown, hts⟩ := C0.1
  have hK := C0.2.2.2.1
  unfold f10_menSet at h
  refine lv_iconst (v := 0) hx hb dX10_menSet_0 (by decide) ?_
  refine lv_istore_n (lv' := [(1, .int 0), (0, .ref h0)]) hx hb dX10_menSet_1 rfl hl (by decide) rfl (fun ls hl => ?_)
  refine lv_iconst (v := 0) hx hb dX10_menSet_2 (by decide) ?_
  refine lv_istore_n (lv' := [(2, .int 0), (1, .int 0), (0, .ref h0)]) hx hb dX10_menSet_3 rfl hl (by decide) rfl (fun ls hl => ?_)
  exact ww_f10_menSet_l4 C0 NF 0 0 h _ _ _ hPD hS (lv_sub hl [2, 1, 0] rfl)
abbrev rmX10_wages : Room := { frames := 2, cells := 0, slots := 0, locals := 43 }
set_option maxRecDepth 100000 in
set_option maxHeartbeats 4000000 in
theorem ww_f10_wages_b4  (C0 : Cx cX10_wages 3 (some .int) RX10 p s m args meth c G DA) {h0 : Nat} {a0 : Nat → Nat} {f0 : Nat → Int32} {A0 : Nat → Nat → Int32}  {k4 : Int32 → Int32 → Option (Int32)} {res : Int32}  (hk4 : ∀ (l1 : Int32) (l2 : Int32), k4 l1 l2 = some res → ∀ (H : Heap) (locs : List Loc) (ls : Array Slot), WD G DA (wX10 G h0 a0 f0 A0) H → va_S DA s.heap H locs → lv_has ls 3 [(0, .ref h0), (1, .int l1), (2, .int l2)] → W p l e rmX10_wages s m args below meth c H locs 0 0 (MQ below (QI G DA res (wX10 G h0 a0 f0 A0)) args s 0 0 DA) (F0 m 4 ls [])) : ∀ (l1 : Int32) (l2 : Int32), f10_wages_b4 f0 A0  k4 l1 l2 = some res → ∀ (H : Heap) (locs : List Loc) (ls : Array Slot), WD G DA (wX10 G h0 a0 f0 A0) H → va_S DA s.heap H locs → lv_has ls 3 [(0, .ref h0), (1, .int l1), (2, .int l2)] → W p l e rmX10_wages s m args below meth c H locs 0 0 (MQ below (QI G DA res (wX10 G h0 a0 f0 A0)) args s 0 0 DA) (F0 m 4 ls []) := by
  obtain ⟨hx, hb, hml, hown, hts⟩ := C0.1
  have hK := C0.2.2.2.1
  intro l1 l2 h _ _ _ hPD hS hl
  unfold f10_wages_b4 at h
  refine lv_iload_n hx hb dX10_wages_4 rfl (lv_at hl 2 rfl) ?_
  refine lv_bipush (v := 8) hx hb dX10_wages_5 (by decide) ?_
  refine lv_icmp_ge (tgt := 36) hx hb dX10_wages_7 (by decide) (fun cc1 => ?_) (fun cc1 => ?_)
  · have h := (if_pos cc1).symm.trans h
    refine lv_iload_n hx hb dX10_wages_36 rfl (lv_at hl 1 rfl) ?_
    obtain rfl := Option.some.inj h
    exact eI C0 hPD.1 hPD.2 hS rfl dX10_wages_37
  · have h := (if_neg cc1).symm.trans h
    refine lv_aload_n hx hb dX10_wages_10 rfl (lv_at hl 0 rfl) ?_
    refine lv_iload_n hx hb dX10_wages_11 rfl (lv_at hl 2 rfl) ?_
    obtain ⟨q_1, hq_1, h⟩ := ob2 h
    refine kVI (As := [.int l2]) (rest := []) C0 (kt_X10_isMan l G h0 a0 f0 A0 l2 hq_1) gi_V_X10_124_X10_isMan (n := 1) rfl (by decide +kernel) rfl ⟨rfl, rfl, Nat.le_of_ble_eq_true rfl, Nat.le_of_ble_eq_true rfl⟩ hPD hS 0 10 rfl rfl rfl [0, 1, 2, 3, 4, 5, 6, 7, 8, 9, 10, 11, 12, 13, 14, 15, 16, 17, 18, 19, 20, 21, 22, 23, 24, 25, 26, 27, 28, 29, 30, 31, 32, 33] [] [0, 1, 2, 3, 4, 5, 6, 7, 8, 9, 10, 11, 12, 13, 14, 15, 16, 17, 18, 19, 20, 21, 22, 23, 24, 25, 26, 27, 28, 29, 30, 31, 32, 33] (wr := ([] : va_W)) (wN := (wX10 G h0 a0 f0 A0)) rfl rfl rfl rfl rfl hl.1 (Nat.le_of_ble_eq_true rfl) dX10_wages_12 (fun H locs hPD hS => ?_)
    refine lv_if_eq (tgt := 30) hx hb dX10_wages_15 (by decide) (fun cc1 => ?_) (fun cc1 => ?_)
    · have h := (if_pos cc1).symm.trans h
      refine lv_iinc (v := l2 + 1) (lv' := [(2, .int (l2 + 1)), (0, .ref h0), (1, .int l1)]) hx hb dX10_wages_30 hl (k := 2) rfl rfl (by decide) rfl (fun ls hl => ?_)
      refine lv_goto (tgt := 4) hx hb dX10_wages_33 (by decide) ?_
      exact hk4 l1 (l2 + 1) h _ _ _ hPD hS (lv_sub hl [1, 2, 0] rfl)
    · have h := (if_neg cc1).symm.trans h
      refine lv_iload_n hx hb dX10_wages_18 rfl (lv_at hl 1 rfl) ?_
      refine lv_aload_n hx hb dX10_wages_19 rfl (lv_at hl 0 rfl) ?_
      refine va_get (D := G.1) (ci := 10) (v := .ref (a0 0)) (C := RX10) (T := TX10) (N := 52) hx hb hts inlX10 hown hK hPD.1 0 rfl rfl 0 (by decide) (hts _ gw_536) (fun _ h9 => h9) rfl dX10_wages_20 ?_
      refine lv_bipush (v := 64) hx hb dX10_wages_23 (by decide) ?_
      refine lv_iload_n hx hb dX10_wages_25 rfl (lv_at hl 2 rfl) ?_
      refine lv_iadd hx hb dX10_wages_26 ?_
      obtain ⟨hi_2, h⟩ := ob h
      refine va_iald hx hb hK hPD.1 1 1 rfl rfl hi_2 dX10_wages_27 ?_
      refine lv_iadd hx hb dX10_wages_28 ?_
      refine lv_istore_n (lv' := [(1, .int (l1 + (gx (A0 0) (64 + l2)))), (0, .ref h0), (2, .int l2)]) hx hb dX10_wages_29 rfl hl (by decide) rfl (fun ls hl => ?_)
      refine lv_iinc (v := l2 + 1) (lv' := [(2, .int (l2 + 1)), (1, .int (l1 + (gx (A0 0) (64 + l2)))), (0, .ref h0)]) hx hb dX10_wages_30 hl (k := 2) rfl rfl (by decide) rfl (fun ls hl => ?_)
      refine lv_goto (tgt := 4) hx hb dX10_wages_33 (by decide) ?_
      exact hk4 (l1 + (gx (A0 0) (64 + l2))) (l2 + 1) h _ _ _ hPD hS (lv_sub hl [2, 1, 0] rfl)
end WALK
