section WALK
variable {p : Program} {l : Launch} {e : Env} {s : State} {m : MethodId} {args : Array Value} {below : List Frame} {meth : Method} {c : Code} {G : Gp} {DA : Nat → Prop}
abbrev rmX10_readsCompared : Room := { frames := 5, cells := 0, slots := 0, locals := 104 }
set_option maxRecDepth 100000 in
set_option maxHeartbeats 4000000 in
theorem ww_f10_readsCompared_b52  (C0 : Cx cX10_readsCompared 2 (some .boolean) RX10 p s m args meth c G DA) {h0 : Nat} {a0 : Nat → Nat}   {res : Int32 × (Nat → Nat → Int32) × (Nat → Int32)}  : ∀ (A0 : Nat → Nat → Int32) (f0 : Nat → Int32) (s0 : Int32), f10_readsCompared_b52   A0 f0 s0 = some res → ∀ (H : Heap) (locs : List Loc) (ls : Array Slot), WD G DA (wX10 G h0 a0 f0 A0) H → va_S DA s.heap H locs → lv_has ls 2 [(0, .ref h0)] → W p l e rmX10_readsCompared s m args below meth c H locs 0 0 (MQ below (QI G DA res.1 (wX10 G h0 a0 res.2.2 res.2.1)) args s 0 0 DA) (F0 m 52 ls [.int s0]) := by
  obtain ⟨hx, hb, hml, hown, hts⟩ := C0.1
  have hK := C0.2.2.2.1
  intro A0 f0 s0 h _ _ _ hPD hS hl
  unfold f10_readsCompared_b52 at h
  refine lv_istore_n (lv' := [(1, .int s0), (0, .ref h0)]) hx hb dX10_readsCompared_52 rfl hl (by decide) rfl (fun ls hl => ?_)
  refine lv_iload_n hx hb dX10_readsCompared_53 rfl (lv_at hl 0 rfl) ?_
  refine lv_iconst (v := (-1)) hx hb dX10_readsCompared_54 (by decide) ?_
  refine lv_icmp_ne (tgt := 68) hx hb dX10_readsCompared_55 (by decide) (fun cc1 => ?_) (fun cc1 => ?_)
  · have h := (if_neg cc1).symm.trans h
    refine lv_aload_n hx hb dX10_readsCompared_68 rfl (lv_at hl 1 rfl) ?_
    refine lv_aload_n hx hb dX10_readsCompared_69 rfl (lv_at hl 1 rfl) ?_
    refine va_get (D := G.1) (ci := 10) (v := .int (f0 9)) (C := RX10) (T := TX10) (N := 52) hx hb hts inlX10 hown hK hPD.1 0 rfl rfl 9 (by decide) (hts _ gw_551) (fun _ h9 => h9) rfl dX10_readsCompared_70 ?_
    refine lv_iconst (v := 1) hx hb dX10_readsCompared_73 (by decide) ?_
    refine lv_iadd hx hb dX10_readsCompared_74 ?_
    refine va_put (D := G.1) (ci := 10) (v := .int ((f0 9) + 1)) (ty := .int) (C := RX10) (T := TX10) (N := 52) hx hb hts inlX10 tyX10 tyX10_ok nmX10 hown hK hPD.1 hPD.2 hS 0 rfl rfl 9 (by decide) (hts _ gw_551) (fun _ h9 => h9) rfl (by decide +kernel) rfl rfl (Nat.le_of_ble_eq_true rfl) dX10_readsCompared_75 (fun H locs hP hD hS => ?_)
    obtain ⟨f0_5, ef0_5, h⟩ := lvl h
    have hPD : WD G DA (wX10 G h0 a0 f0_5 A0) H := by rw [ef0_5]; exact ⟨hP, hD⟩
    clear ef0_5 hP hD
    refine lv_aload_n hx hb dX10_readsCompared_78 rfl (lv_at hl 1 rfl) ?_
    obtain ⟨q_6, hq_6, h⟩ := ob2 h
    refine kVI (As := []) (rest := []) C0 (kt_X10_readsSum l G h0 a0 f0_5 A0 hq_6) gi_V_X10_200_X10_readsSum (n := 0) rfl (by decide +kernel) rfl ⟨rfl, rfl, Nat.le_of_ble_eq_true rfl, Nat.le_of_ble_eq_true rfl⟩ hPD hS 0 10 rfl rfl rfl [0, 1, 2, 3, 4, 5, 6, 7, 8, 9, 10, 11, 12, 13, 14, 15, 16, 17, 18, 19, 20, 21, 22, 23, 24, 25, 26, 27, 28, 29, 30, 31, 32, 33] [] [0, 1, 2, 3, 4, 5, 6, 7, 8, 9, 10, 11, 12, 13, 14, 15, 16, 17, 18, 19, 20, 21, 22, 23, 24, 25, 26, 27, 28, 29, 30, 31, 32, 33] (wr := ([] : va_W)) (wN := (wX10 G h0 a0 q_6.2.2 q_6.2.1)) rfl rfl rfl rfl rfl hl.1 (Nat.le_of_ble_eq_true rfl) dX10_readsCompared_79 (fun H locs hPD hS => ?_)
    refine lv_if_ne (tgt := 87) hx hb dX10_readsCompared_82 (by decide) (fun cc1 => ?_) (fun cc1 => ?_)
    · have h := (if_neg cc1).symm.trans h
      refine lv_aload_n hx hb dX10_readsCompared_87 rfl (lv_at hl 1 rfl) ?_
      refine lv_iload_n hx hb dX10_readsCompared_88 rfl (lv_at hl 0 rfl) ?_
      refine lv_iconst (v := 0) hx hb dX10_readsCompared_89 (by decide) ?_
      obtain ⟨q_7, hq_7, h⟩ := ob2 h
      refine kVV (As := [.int s0, .int 0]) (rest := []) C0 (kt_X10_notes l G h0 a0 q_6.2.2 q_6.2.1 s0 0 hq_7) gi_V_X10_173_X10_notes (n := 2) rfl (by decide +kernel) rfl ⟨rfl, rfl, Nat.le_of_ble_eq_true rfl, Nat.le_of_ble_eq_true rfl⟩ hPD hS 0 10 rfl rfl rfl [0, 1, 2, 3, 4, 5, 6, 7, 8, 9, 10, 11, 12, 13, 14, 15, 16, 17, 18, 19, 20, 21, 22, 23, 24, 25, 26, 27, 28, 29, 30, 31, 32, 33] [] [0, 1, 2, 3, 4, 5, 6, 7, 8, 9, 10, 11, 12, 13, 14, 15, 16, 17, 18, 19, 20, 21, 22, 23, 24, 25, 26, 27, 28, 29, 30, 31, 32, 33] (wr := ([] : va_W)) (wN := (wX10 G h0 a0 q_7.2 q_7.1)) rfl rfl rfl rfl rfl hl.1 (Nat.le_of_ble_eq_true rfl) dX10_readsCompared_90 (fun H locs hPD hS => ?_)
      refine lv_aload_n hx hb dX10_readsCompared_93 rfl (lv_at hl 1 rfl) ?_
      obtain ⟨q_8, hq_8, h⟩ := ob2 h
      refine kVV (As := []) (rest := []) C0 (kt_X10_endsPiece l G h0 a0 q_7.2 q_7.1 hq_8) gi_V_X10_203_X10_endsPiece (n := 0) rfl (by decide +kernel) rfl ⟨rfl, rfl, Nat.le_of_ble_eq_true rfl, Nat.le_of_ble_eq_true rfl⟩ hPD hS 0 10 rfl rfl rfl [0, 1, 2, 3, 4, 5, 6, 7, 8, 9, 10, 11, 12, 13, 14, 15, 16, 17, 18, 19, 20, 21, 22, 23, 24, 25, 26, 27, 28, 29, 30, 31, 32, 33] [] [0, 1, 2, 3, 4, 5, 6, 7, 8, 9, 10, 11, 12, 13, 14, 15, 16, 17, 18, 19, 20, 21, 22, 23, 24, 25, 26, 27, 28, 29, 30, 31, 32, 33] (wr := ([] : va_W)) (wN := (wX10 G h0 a0 q_8.2 q_8.1)) rfl rfl rfl rfl rfl hl.1 (Nat.le_of_ble_eq_true rfl) dX10_readsCompared_94 (fun H locs hPD hS => ?_)
      refine lv_iconst (v := 1) hx hb dX10_readsCompared_97 (by decide) ?_
      obtain rfl := Option.some.inj h
      exact eZ C0 hPD.1 hPD.2 hS rfl rfl dX10_readsCompared_98
    · have h := (if_pos cc1).symm.trans h
      refine lv_iconst (v := 0) hx hb dX10_readsCompared_85 (by decide) ?_
      obtain rfl := Option.some.inj h
      exact eZ C0 hPD.1 hPD.2 hS rfl rfl dX10_readsCompared_86
  · have h := (if_pos cc1).symm.trans h
    refine lv_aload_n hx hb dX10_readsCompared_58 rfl (lv_at hl 1 rfl) ?_
    refine lv_iconst (v := 1) hx hb dX10_readsCompared_59 (by decide) ?_
    refine lv_aload_n hx hb dX10_readsCompared_60 rfl (lv_at hl 1 rfl) ?_
    refine va_get (D := G.1) (ci := 10) (v := .int (f0 9)) (C := RX10) (T := TX10) (N := 52) hx hb hts inlX10 hown hK hPD.1 0 rfl rfl 9 (by decide) (hts _ gw_551) (fun _ h9 => h9) rfl dX10_readsCompared_61 ?_
    obtain ⟨q_9, hq_9, h⟩ := ob2 h
    refine kVI (As := [.int 1, .int (f0 9)]) (rest := []) C0 (kt_X10_wrongAt l G h0 a0 f0 A0 1 (f0 9) hq_9) gi_V_X10_151_X10_wrongAt (n := 2) rfl (by decide +kernel) rfl ⟨rfl, rfl, Nat.le_of_ble_eq_true rfl, Nat.le_of_ble_eq_true rfl⟩ hPD hS 0 10 rfl rfl rfl [0, 1, 2, 3, 4, 5, 6, 7, 8, 9, 10, 11, 12, 13, 14, 15, 16, 17, 18, 19, 20, 21, 22, 23, 24, 25, 26, 27, 28, 29, 30, 31, 32, 33] [] [0, 1, 2, 3, 4, 5, 6, 7, 8, 9, 10, 11, 12, 13, 14, 15, 16, 17, 18, 19, 20, 21, 22, 23, 24, 25, 26, 27, 28, 29, 30, 31, 32, 33] (wr := ([] : va_W)) (wN := (wX10 G h0 a0 q_9.2 A0)) rfl rfl rfl rfl rfl hl.1 (Nat.le_of_ble_eq_true rfl) dX10_readsCompared_64 (fun H locs hPD hS => ?_)
    obtain ⟨hz, h⟩ := ob h
    obtain rfl := Option.some.inj h
    exact eZ C0 hPD.1 hPD.2 hS rfl (nbool (Classical.not_not.mp hz)) dX10_readsCompared_67
set_option maxRecDepth 100000 in
set_option maxHeartbeats 4000000 in
theorem kt_X10_readsCompared (l : Launch) (G : Gp) (h0 : Nat) (a0 : Nat → Nat) (f0 : Nat → Int32) (A0 : Nat → Nat → Int32) : ∀ {r : Int32 × (Nat → Nat → Int32) × (Nat → Int32)}, f10_readsCompared f0 A0 = some r → CtrI l yX10_readsCompared cX10_readsCompared 2 (some .boolean) rmX10_readsCompared G [.ref h0] (wX10 G h0 a0 f0 A0) r.1 (wX10 G h0 a0 r.2.2 r.2.1) := by
  intro res h
  refine ctrI_of (cc := cX10_readsCompared) (maxL := 2) (ret := (some .boolean)) (by decide +kernel) rfl (Nat.le_of_ble_eq_true rfl) (fun p e s m below meth c DA C0 hP hD ls hl => ?_)
  have hPD : WD G DA (wX10 G h0 a0 f0 A0) s.heap := ⟨hP, hD⟩
  have hS : va_S DA s.heap s.heap [] := va_S.rf
  have hl : lv_has ls 2 [(0, .ref h0)] := hl
  obtain ⟨hx, hb, hml, hown, hts⟩ := C0.1
  have hK := C0.2.2.2.1
  unfold f10_readsCompared at h
  refine lv_aload_n hx hb dX10_readsCompared_0 rfl (lv_at hl 0 rfl) ?_
  obtain ⟨q_1, hq_1, h⟩ := ob2 h
  refine kVI (As := []) (rest := []) C0 (kt_X10_readsSum l G h0 a0 f0 A0 hq_1) gi_V_X10_200_X10_readsSum (n := 0) rfl (by decide +kernel) rfl ⟨rfl, rfl, Nat.le_of_ble_eq_true rfl, Nat.le_of_ble_eq_true rfl⟩ hPD hS 0 10 rfl rfl rfl [0, 1, 2, 3, 4, 5, 6, 7, 8, 9, 10, 11, 12, 13, 14, 15, 16, 17, 18, 19, 20, 21, 22, 23, 24, 25, 26, 27, 28, 29, 30, 31, 32, 33] [] [0, 1, 2, 3, 4, 5, 6, 7, 8, 9, 10, 11, 12, 13, 14, 15, 16, 17, 18, 19, 20, 21, 22, 23, 24, 25, 26, 27, 28, 29, 30, 31, 32, 33] (wr := ([] : va_W)) (wN := (wX10 G h0 a0 q_1.2.2 q_1.2.1)) rfl rfl rfl rfl rfl hl.1 (Nat.le_of_ble_eq_true rfl) dX10_readsCompared_1 (fun H locs hPD hS => ?_)
  refine lv_if_ne (tgt := 9) hx hb dX10_readsCompared_4 (by decide) (fun cc1 => ?_) (fun cc1 => ?_)
  · have h := (if_neg cc1).symm.trans h
    refine lv_aload_n hx hb dX10_readsCompared_9 rfl (lv_at hl 0 rfl) ?_
    obtain ⟨q_2, hq_2, h⟩ := ob2 h
    refine kVI (As := []) (rest := []) C0 (kt_X10_here l G h0 a0 q_1.2.2 q_1.2.1 hq_2) gi_V_X10_144_X10_here (n := 0) rfl (by decide +kernel) rfl ⟨rfl, rfl, Nat.le_of_ble_eq_true rfl, Nat.le_of_ble_eq_true rfl⟩ hPD hS 0 10 rfl rfl rfl [0, 1, 2, 3, 4, 5, 6, 7, 8, 9, 10, 11, 12, 13, 14, 15, 16, 17, 18, 19, 20, 21, 22, 23, 24, 25, 26, 27, 28, 29, 30, 31, 32, 33] [] [0, 1, 2, 3, 4, 5, 6, 7, 8, 9, 10, 11, 12, 13, 14, 15, 16, 17, 18, 19, 20, 21, 22, 23, 24, 25, 26, 27, 28, 29, 30, 31, 32, 33] (wr := ([] : va_W)) (wN := (wX10 G h0 a0 q_1.2.2 q_1.2.1)) rfl rfl rfl rfl rfl hl.1 (Nat.le_of_ble_eq_true rfl) dX10_readsCompared_10 (fun H locs hPD hS => ?_)
    refine lv_bipush (v := 60) hx hb dX10_readsCompared_13 (by decide) ?_
    refine lv_icmp_ne (tgt := 23) hx hb dX10_readsCompared_15 (by decide) (fun cc1 => ?_) (fun cc1 => ?_)
    · have h := (if_neg cc1).symm.trans h
      refine lv_aload_n hx hb dX10_readsCompared_23 rfl (lv_at hl 0 rfl) ?_
      obtain ⟨q_3, hq_3, h⟩ := ob2 h
      refine kVI (As := []) (rest := []) C0 (kt_X10_here l G h0 a0 q_1.2.2 q_1.2.1 hq_3) gi_V_X10_144_X10_here (n := 0) rfl (by decide +kernel) rfl ⟨rfl, rfl, Nat.le_of_ble_eq_true rfl, Nat.le_of_ble_eq_true rfl⟩ hPD hS 0 10 rfl rfl rfl [0, 1, 2, 3, 4, 5, 6, 7, 8, 9, 10, 11, 12, 13, 14, 15, 16, 17, 18, 19, 20, 21, 22, 23, 24, 25, 26, 27, 28, 29, 30, 31, 32, 33] [] [0, 1, 2, 3, 4, 5, 6, 7, 8, 9, 10, 11, 12, 13, 14, 15, 16, 17, 18, 19, 20, 21, 22, 23, 24, 25, 26, 27, 28, 29, 30, 31, 32, 33] (wr := ([] : va_W)) (wN := (wX10 G h0 a0 q_1.2.2 q_1.2.1)) rfl rfl rfl rfl rfl hl.1 (Nat.le_of_ble_eq_true rfl) dX10_readsCompared_24 (fun H locs hPD hS => ?_)
      refine lv_bipush (v := 62) hx hb dX10_readsCompared_27 (by decide) ?_
      refine lv_icmp_ne (tgt := 37) hx hb dX10_readsCompared_29 (by decide) (fun cc1 => ?_) (fun cc1 => ?_)
      · have h := (if_neg cc1).symm.trans h
        refine lv_aload_n hx hb dX10_readsCompared_37 rfl (lv_at hl 0 rfl) ?_
        obtain ⟨q_4, hq_4, h⟩ := ob2 h
        refine kVI (As := []) (rest := []) C0 (kt_X10_here l G h0 a0 q_1.2.2 q_1.2.1 hq_4) gi_V_X10_144_X10_here (n := 0) rfl (by decide +kernel) rfl ⟨rfl, rfl, Nat.le_of_ble_eq_true rfl, Nat.le_of_ble_eq_true rfl⟩ hPD hS 0 10 rfl rfl rfl [0, 1, 2, 3, 4, 5, 6, 7, 8, 9, 10, 11, 12, 13, 14, 15, 16, 17, 18, 19, 20, 21, 22, 23, 24, 25, 26, 27, 28, 29, 30, 31, 32, 33] [] [0, 1, 2, 3, 4, 5, 6, 7, 8, 9, 10, 11, 12, 13, 14, 15, 16, 17, 18, 19, 20, 21, 22, 23, 24, 25, 26, 27, 28, 29, 30, 31, 32, 33] (wr := ([] : va_W)) (wN := (wX10 G h0 a0 q_1.2.2 q_1.2.1)) rfl rfl rfl rfl rfl hl.1 (Nat.le_of_ble_eq_true rfl) dX10_readsCompared_38 (fun H locs hPD hS => ?_)
        refine lv_bipush (v := 61) hx hb dX10_readsCompared_41 (by decide) ?_
        refine lv_icmp_ne (tgt := 51) hx hb dX10_readsCompared_43 (by decide) (fun cc1 => ?_) (fun cc1 => ?_)
        · have h := (if_neg cc1).symm.trans h
          refine lv_iconst (v := (-1)) hx hb dX10_readsCompared_51 (by decide) ?_
          exact ww_f10_readsCompared_b52 C0 q_1.2.1 q_1.2.2 (-1) h _ _ _ hPD hS (lv_sub hl [0] rfl)
        · have h := (if_pos cc1).symm.trans h
          refine lv_bipush (v := 9) hx hb dX10_readsCompared_46 (by decide) ?_
          refine lv_goto (tgt := 52) hx hb dX10_readsCompared_48 (by decide) ?_
          exact ww_f10_readsCompared_b52 C0 q_1.2.1 q_1.2.2 9 h _ _ _ hPD hS (lv_sub hl [0] rfl)
      · have h := (if_pos cc1).symm.trans h
        refine lv_bipush (v := 8) hx hb dX10_readsCompared_32 (by decide) ?_
        refine lv_goto (tgt := 52) hx hb dX10_readsCompared_34 (by decide) ?_
        exact ww_f10_readsCompared_b52 C0 q_1.2.1 q_1.2.2 8 h _ _ _ hPD hS (lv_sub hl [0] rfl)
    · have h := (if_pos cc1).symm.trans h
      refine lv_bipush (v := 7) hx hb dX10_readsCompared_18 (by decide) ?_
      refine lv_goto (tgt := 52) hx hb dX10_readsCompared_20 (by decide) ?_
      exact ww_f10_readsCompared_b52 C0 q_1.2.1 q_1.2.2 7 h _ _ _ hPD hS (lv_sub hl [0] rfl)
  · have h := (if_pos cc1).symm.trans h
    refine lv_iconst (v := 0) hx hb dX10_readsCompared_7 (by decide) ?_
    obtain rfl := Option.some.inj h
    exact eZ C0 hPD.1 hPD.2 hS rfl rfl dX10_readsCompared_8
abbrev rmX10_readsCondition : Room := { frames := 6, cells := 0, slots := 0, locals := 125 }
set_option maxRecDepth 100000 in
set_option maxHeartbeats 4000000 in
theorem ww_f10_readsCondition_b75  (C0 : Cx cX10_readsCondition 1 (some .boolean) RX10 p s m args meth c G DA) {h0 : Nat} {a0 : Nat → Nat}  {k40 : (Nat → Nat → Int32) → (Nat → Int32) → Option (Int32 × (Nat → Nat → Int32) × (Nat → Int32))} {res : Int32 × (Nat → Nat → Int32) × (Nat → Int32)} (hk40 : ∀ (A0 : Nat → Nat → Int32) (f0 : Nat → Int32), k40 A0 f0 = some res → ∀ (H : Heap) (locs : List Loc) (ls : Array Slot), WD G DA (wX10 G h0 a0 f0 A0) H → va_S DA s.heap H locs → lv_has ls 1 [(0, .ref h0)] → W p l e rmX10_readsCondition s m args below meth c H locs 0 0 (MQ below (QI G DA res.1 (wX10 G h0 a0 res.2.2 res.2.1)) args s 0 0 DA) (F0 m 40 ls [])) : ∀ (A0 : Nat → Nat → Int32) (f0 : Nat → Int32) (s0 : Int32), f10_readsCondition_b75  k40 A0 f0 s0 = some res → ∀ (H : Heap) (locs : List Loc) (ls : Array Slot), WD G DA (wX10 G h0 a0 f0 A0) H → va_S DA s.heap H locs → lv_has ls 1 [(0, .ref h0)] → W p l e rmX10_readsCondition s m args below meth c H locs 0 0 (MQ below (QI G DA res.1 (wX10 G h0 a0 res.2.2 res.2.1)) args s 0 0 DA) (F0 m 75 ls [.int s0, .ref h0]) := by
  obtain ⟨hx, hb, hml, hown, hts⟩ := C0.1
  have hK := C0.2.2.2.1
  intro A0 f0 s0 h _ _ _ hPD hS hl
  unfold f10_readsCondition_b75 at h
  obtain ⟨q_7, hq_7, h⟩ := ob2 h
  refine kVI (As := [.int s0]) (rest := []) C0 (kt_X10_opens l G h0 a0 f0 A0 s0 hq_7) gi_V_X10_177_X10_opens (n := 1) rfl (by decide +kernel) rfl ⟨rfl, rfl, Nat.le_of_ble_eq_true rfl, Nat.le_of_ble_eq_true rfl⟩ hPD hS 0 10 rfl rfl rfl [0, 1, 2, 3, 4, 5, 6, 7, 8, 9, 10, 11, 12, 13, 14, 15, 16, 17, 18, 19, 20, 21, 22, 23, 24, 25, 26, 27, 28, 29, 30, 31, 32, 33] [] [0, 1, 2, 3, 4, 5, 6, 7, 8, 9, 10, 11, 12, 13, 14, 15, 16, 17, 18, 19, 20, 21, 22, 23, 24, 25, 26, 27, 28, 29, 30, 31, 32, 33] (wr := ([] : va_W)) (wN := (wX10 G h0 a0 q_7.2.2 q_7.2.1)) rfl rfl rfl rfl rfl hl.1 (Nat.le_of_ble_eq_true rfl) dX10_readsCondition_75 (fun H locs hPD hS => ?_)
  refine lv_if_ne (tgt := 40) hx hb dX10_readsCondition_78 (by decide) (fun cc1 => ?_) (fun cc1 => ?_)
  · have h := (if_neg cc1).symm.trans h
    exact hk40 q_7.2.1 q_7.2.2 h _ _ _ hPD hS (lv_sub hl [0] rfl)
  · have h := (if_pos cc1).symm.trans h
    refine lv_iconst (v := 0) hx hb dX10_readsCondition_81 (by decide) ?_
    obtain rfl := Option.some.inj h
    exact eZ C0 hPD.1 hPD.2 hS rfl rfl dX10_readsCondition_82
set_option maxRecDepth 100000 in
set_option maxHeartbeats 4000000 in
theorem ww_f10_readsCondition_b58  (C0 : Cx cX10_readsCondition 1 (some .boolean) RX10 p s m args meth c G DA) {h0 : Nat} {a0 : Nat → Nat}  {k40 : (Nat → Nat → Int32) → (Nat → Int32) → Option (Int32 × (Nat → Nat → Int32) × (Nat → Int32))} {res : Int32 × (Nat → Nat → Int32) × (Nat → Int32)} (hk40 : ∀ (A0 : Nat → Nat → Int32) (f0 : Nat → Int32), k40 A0 f0 = some res → ∀ (H : Heap) (locs : List Loc) (ls : Array Slot), WD G DA (wX10 G h0 a0 f0 A0) H → va_S DA s.heap H locs → lv_has ls 1 [(0, .ref h0)] → W p l e rmX10_readsCondition s m args below meth c H locs 0 0 (MQ below (QI G DA res.1 (wX10 G h0 a0 res.2.2 res.2.1)) args s 0 0 DA) (F0 m 40 ls [])) : ∀ (A0 : Nat → Nat → Int32) (f0 : Nat → Int32), f10_readsCondition_b58  k40 A0 f0 = some res → ∀ (H : Heap) (locs : List Loc) (ls : Array Slot), WD G DA (wX10 G h0 a0 f0 A0) H → va_S DA s.heap H locs → lv_has ls 1 [(0, .ref h0)] → W p l e rmX10_readsCondition s m args below meth c H locs 0 0 (MQ below (QI G DA res.1 (wX10 G h0 a0 res.2.2 res.2.1)) args s 0 0 DA) (F0 m 58 ls []) := by
  obtain ⟨hx, hb, hml, hown, hts⟩ := C0.1
  have hK := C0.2.2.2.1
  intro A0 f0 h _ _ _ hPD hS hl
  unfold f10_readsCondition_b58 at h
  refine lv_aload_n hx hb dX10_readsCondition_58 rfl (lv_at hl 0 rfl) ?_
  refine lv_aload_n hx hb dX10_readsCondition_59 rfl (lv_at hl 0 rfl) ?_
  obtain ⟨q_6, hq_6, h⟩ := ob2 h
  refine kVI (As := []) (rest := [.ref h0]) C0 (kt_X10_here l G h0 a0 f0 A0 hq_6) gi_V_X10_144_X10_here (n := 0) rfl (by decide +kernel) rfl ⟨rfl, rfl, Nat.le_of_ble_eq_true rfl, Nat.le_of_ble_eq_true rfl⟩ hPD hS 0 10 rfl rfl rfl [0, 1, 2, 3, 4, 5, 6, 7, 8, 9, 10, 11, 12, 13, 14, 15, 16, 17, 18, 19, 20, 21, 22, 23, 24, 25, 26, 27, 28, 29, 30, 31, 32, 33] [] [0, 1, 2, 3, 4, 5, 6, 7, 8, 9, 10, 11, 12, 13, 14, 15, 16, 17, 18, 19, 20, 21, 22, 23, 24, 25, 26, 27, 28, 29, 30, 31, 32, 33] (wr := ([] : va_W)) (wN := (wX10 G h0 a0 f0 A0)) rfl rfl rfl rfl rfl hl.1 (Nat.le_of_ble_eq_true rfl) dX10_readsCondition_60 (fun H locs hPD hS => ?_)
  refine lv_bipush (v := 33) hx hb dX10_readsCondition_63 (by decide) ?_
  refine lv_icmp_ne (tgt := 73) hx hb dX10_readsCondition_65 (by decide) (fun cc1 => ?_) (fun cc1 => ?_)
  · have h := (if_neg cc1).symm.trans h
    refine lv_bipush (v := 13) hx hb dX10_readsCondition_73 (by decide) ?_
    exact ww_f10_readsCondition_b75 C0 hk40 A0 f0 13 h _ _ _ hPD hS (lv_sub hl [0] rfl)
  · have h := (if_pos cc1).symm.trans h
    refine lv_bipush (v := 10) hx hb dX10_readsCondition_68 (by decide) ?_
    refine lv_goto (tgt := 75) hx hb dX10_readsCondition_70 (by decide) ?_
    exact ww_f10_readsCondition_b75 C0 hk40 A0 f0 10 h _ _ _ hPD hS (lv_sub hl [0] rfl)
set_option maxRecDepth 100000 in
set_option maxHeartbeats 4000000 in
theorem ww_f10_readsCondition_b195  (C0 : Cx cX10_readsCondition 1 (some .boolean) RX10 p s m args meth c G DA) {h0 : Nat} {a0 : Nat → Nat}  {k40 : (Nat → Nat → Int32) → (Nat → Int32) → Option (Int32 × (Nat → Nat → Int32) × (Nat → Int32))} {res : Int32 × (Nat → Nat → Int32) × (Nat → Int32)} (hk40 : ∀ (A0 : Nat → Nat → Int32) (f0 : Nat → Int32), k40 A0 f0 = some res → ∀ (H : Heap) (locs : List Loc) (ls : Array Slot), WD G DA (wX10 G h0 a0 f0 A0) H → va_S DA s.heap H locs → lv_has ls 1 [(0, .ref h0)] → W p l e rmX10_readsCondition s m args below meth c H locs 0 0 (MQ below (QI G DA res.1 (wX10 G h0 a0 res.2.2 res.2.1)) args s 0 0 DA) (F0 m 40 ls [])) : ∀ (A0 : Nat → Nat → Int32) (f0 : Nat → Int32) (s0 : Int32), f10_readsCondition_b195  k40 A0 f0 s0 = some res → ∀ (H : Heap) (locs : List Loc) (ls : Array Slot), WD G DA (wX10 G h0 a0 f0 A0) H → va_S DA s.heap H locs → lv_has ls 1 [(0, .ref h0)] → W p l e rmX10_readsCondition s m args below meth c H locs 0 0 (MQ below (QI G DA res.1 (wX10 G h0 a0 res.2.2 res.2.1)) args s 0 0 DA) (F0 m 195 ls [.int s0, .ref h0]) := by
  obtain ⟨hx, hb, hml, hown, hts⟩ := C0.1
  have hK := C0.2.2.2.1
  intro A0 f0 s0 h _ _ _ hPD hS hl
  unfold f10_readsCondition_b195 at h
  obtain ⟨q_13, hq_13, h⟩ := ob2 h
  refine kVV (As := [.int s0]) (rest := []) C0 (kt_X10_lands l G h0 a0 f0 A0 s0 hq_13) gi_V_X10_209_X10_lands (n := 1) rfl (by decide +kernel) rfl ⟨rfl, rfl, Nat.le_of_ble_eq_true rfl, Nat.le_of_ble_eq_true rfl⟩ hPD hS 0 10 rfl rfl rfl [0, 1, 2, 3, 4, 5, 6, 7, 8, 9, 10, 11, 12, 13, 14, 15, 16, 17, 18, 19, 20, 21, 22, 23, 24, 25, 26, 27, 28, 29, 30, 31, 32, 33] [] [0, 1, 2, 3, 4, 5, 6, 7, 8, 9, 10, 11, 12, 13, 14, 15, 16, 17, 18, 19, 20, 21, 22, 23, 24, 25, 26, 27, 28, 29, 30, 31, 32, 33] (wr := ([] : va_W)) (wN := (wX10 G h0 a0 q_13.2 q_13.1)) rfl rfl rfl rfl rfl hl.1 (Nat.le_of_ble_eq_true rfl) dX10_readsCondition_195 (fun H locs hPD hS => ?_)
  refine lv_aload_n hx hb dX10_readsCondition_198 rfl (lv_at hl 0 rfl) ?_
  refine lv_aload_n hx hb dX10_readsCondition_199 rfl (lv_at hl 0 rfl) ?_
  obtain ⟨q_14, hq_14, h⟩ := ob2 h
  refine kVI (As := []) (rest := [.ref h0]) C0 (kt_X10_here l G h0 a0 q_13.2 q_13.1 hq_14) gi_V_X10_144_X10_here (n := 0) rfl (by decide +kernel) rfl ⟨rfl, rfl, Nat.le_of_ble_eq_true rfl, Nat.le_of_ble_eq_true rfl⟩ hPD hS 0 10 rfl rfl rfl [0, 1, 2, 3, 4, 5, 6, 7, 8, 9, 10, 11, 12, 13, 14, 15, 16, 17, 18, 19, 20, 21, 22, 23, 24, 25, 26, 27, 28, 29, 30, 31, 32, 33] [] [0, 1, 2, 3, 4, 5, 6, 7, 8, 9, 10, 11, 12, 13, 14, 15, 16, 17, 18, 19, 20, 21, 22, 23, 24, 25, 26, 27, 28, 29, 30, 31, 32, 33] (wr := ([] : va_W)) (wN := (wX10 G h0 a0 q_13.2 q_13.1)) rfl rfl rfl rfl rfl hl.1 (Nat.le_of_ble_eq_true rfl) dX10_readsCondition_200 (fun H locs hPD hS => ?_)
  refine lv_bipush (v := 38) hx hb dX10_readsCondition_203 (by decide) ?_
  refine lv_icmp_ne (tgt := 213) hx hb dX10_readsCondition_205 (by decide) (fun cc1 => ?_) (fun cc1 => ?_)
  · have h := (if_neg cc1).symm.trans h
    refine lv_bipush (v := 12) hx hb dX10_readsCondition_213 (by decide) ?_
    obtain ⟨q_15, hq_15, h⟩ := ob2 h
    refine kVV (As := [.int 12]) (rest := []) C0 (kt_X10_jumps l G h0 a0 q_13.2 q_13.1 12 hq_15) gi_V_X10_212_X10_jumps (n := 1) rfl (by decide +kernel) rfl ⟨rfl, rfl, Nat.le_of_ble_eq_true rfl, Nat.le_of_ble_eq_true rfl⟩ hPD hS 0 10 rfl rfl rfl [0, 1, 2, 3, 4, 5, 6, 7, 8, 9, 10, 11, 12, 13, 14, 15, 16, 17, 18, 19, 20, 21, 22, 23, 24, 25, 26, 27, 28, 29, 30, 31, 32, 33] [] [0, 1, 2, 3, 4, 5, 6, 7, 8, 9, 10, 11, 12, 13, 14, 15, 16, 17, 18, 19, 20, 21, 22, 23, 24, 25, 26, 27, 28, 29, 30, 31, 32, 33] (wr := ([] : va_W)) (wN := (wX10 G h0 a0 q_15.2 q_15.1)) rfl rfl rfl rfl rfl hl.1 (Nat.le_of_ble_eq_true rfl) dX10_readsCondition_215 (fun H locs hPD hS => ?_)
    refine lv_goto (tgt := 40) hx hb dX10_readsCondition_218 (by decide) ?_
    exact hk40 q_15.1 q_15.2 h _ _ _ hPD hS (lv_sub hl [0] rfl)
  · have h := (if_pos cc1).symm.trans h
    refine lv_bipush (v := 11) hx hb dX10_readsCondition_208 (by decide) ?_
    refine lv_goto (tgt := 215) hx hb dX10_readsCondition_210 (by decide) ?_
    obtain ⟨q_16, hq_16, h⟩ := ob2 h
    refine kVV (As := [.int 11]) (rest := []) C0 (kt_X10_jumps l G h0 a0 q_13.2 q_13.1 11 hq_16) gi_V_X10_212_X10_jumps (n := 1) rfl (by decide +kernel) rfl ⟨rfl, rfl, Nat.le_of_ble_eq_true rfl, Nat.le_of_ble_eq_true rfl⟩ hPD hS 0 10 rfl rfl rfl [0, 1, 2, 3, 4, 5, 6, 7, 8, 9, 10, 11, 12, 13, 14, 15, 16, 17, 18, 19, 20, 21, 22, 23, 24, 25, 26, 27, 28, 29, 30, 31, 32, 33] [] [0, 1, 2, 3, 4, 5, 6, 7, 8, 9, 10, 11, 12, 13, 14, 15, 16, 17, 18, 19, 20, 21, 22, 23, 24, 25, 26, 27, 28, 29, 30, 31, 32, 33] (wr := ([] : va_W)) (wN := (wX10 G h0 a0 q_16.2 q_16.1)) rfl rfl rfl rfl rfl hl.1 (Nat.le_of_ble_eq_true rfl) dX10_readsCondition_215 (fun H locs hPD hS => ?_)
    refine lv_goto (tgt := 40) hx hb dX10_readsCondition_218 (by decide) ?_
    exact hk40 q_16.1 q_16.2 h _ _ _ hPD hS (lv_sub hl [0] rfl)
set_option maxRecDepth 100000 in
set_option maxHeartbeats 4000000 in
theorem ww_f10_readsCondition_b180  (C0 : Cx cX10_readsCondition 1 (some .boolean) RX10 p s m args meth c G DA) {h0 : Nat} {a0 : Nat → Nat}  {k40 : (Nat → Nat → Int32) → (Nat → Int32) → Option (Int32 × (Nat → Nat → Int32) × (Nat → Int32))} {res : Int32 × (Nat → Nat → Int32) × (Nat → Int32)} (hk40 : ∀ (A0 : Nat → Nat → Int32) (f0 : Nat → Int32), k40 A0 f0 = some res → ∀ (H : Heap) (locs : List Loc) (ls : Array Slot), WD G DA (wX10 G h0 a0 f0 A0) H → va_S DA s.heap H locs → lv_has ls 1 [(0, .ref h0)] → W p l e rmX10_readsCondition s m args below meth c H locs 0 0 (MQ below (QI G DA res.1 (wX10 G h0 a0 res.2.2 res.2.1)) args s 0 0 DA) (F0 m 40 ls [])) : ∀ (A0 : Nat → Nat → Int32) (f0 : Nat → Int32), f10_readsCondition_b180  k40 A0 f0 = some res → ∀ (H : Heap) (locs : List Loc) (ls : Array Slot), WD G DA (wX10 G h0 a0 f0 A0) H → va_S DA s.heap H locs → lv_has ls 1 [(0, .ref h0)] → W p l e rmX10_readsCondition s m args below meth c H locs 0 0 (MQ below (QI G DA res.1 (wX10 G h0 a0 res.2.2 res.2.1)) args s 0 0 DA) (F0 m 180 ls []) := by
  obtain ⟨hx, hb, hml, hown, hts⟩ := C0.1
  have hK := C0.2.2.2.1
  intro A0 f0 h _ _ _ hPD hS hl
  unfold f10_readsCondition_b180 at h
  refine lv_aload_n hx hb dX10_readsCondition_180 rfl (lv_at hl 0 rfl) ?_
  refine lv_aload_n hx hb dX10_readsCondition_181 rfl (lv_at hl 0 rfl) ?_
  obtain ⟨q_12, hq_12, h⟩ := ob2 h
  refine kVI (As := []) (rest := [.ref h0]) C0 (kt_X10_here l G h0 a0 f0 A0 hq_12) gi_V_X10_144_X10_here (n := 0) rfl (by decide +kernel) rfl ⟨rfl, rfl, Nat.le_of_ble_eq_true rfl, Nat.le_of_ble_eq_true rfl⟩ hPD hS 0 10 rfl rfl rfl [0, 1, 2, 3, 4, 5, 6, 7, 8, 9, 10, 11, 12, 13, 14, 15, 16, 17, 18, 19, 20, 21, 22, 23, 24, 25, 26, 27, 28, 29, 30, 31, 32, 33] [] [0, 1, 2, 3, 4, 5, 6, 7, 8, 9, 10, 11, 12, 13, 14, 15, 16, 17, 18, 19, 20, 21, 22, 23, 24, 25, 26, 27, 28, 29, 30, 31, 32, 33] (wr := ([] : va_W)) (wN := (wX10 G h0 a0 f0 A0)) rfl rfl rfl rfl rfl hl.1 (Nat.le_of_ble_eq_true rfl) dX10_readsCondition_182 (fun H locs hPD hS => ?_)
  refine lv_bipush (v := 124) hx hb dX10_readsCondition_185 (by decide) ?_
  refine lv_icmp_ne (tgt := 194) hx hb dX10_readsCondition_187 (by decide) (fun cc1 => ?_) (fun cc1 => ?_)
  · have h := (if_neg cc1).symm.trans h
    refine lv_iconst (v := 0) hx hb dX10_readsCondition_194 (by decide) ?_
    exact ww_f10_readsCondition_b195 C0 hk40 A0 f0 0 h _ _ _ hPD hS (lv_sub hl [0] rfl)
  · have h := (if_pos cc1).symm.trans h
    refine lv_iconst (v := 1) hx hb dX10_readsCondition_190 (by decide) ?_
    refine lv_goto (tgt := 195) hx hb dX10_readsCondition_191 (by decide) ?_
    exact ww_f10_readsCondition_b195 C0 hk40 A0 f0 1 h _ _ _ hPD hS (lv_sub hl [0] rfl)
set_option maxRecDepth 100000 in
set_option maxHeartbeats 4000000 in
theorem ww_f10_readsCondition_b92  (C0 : Cx cX10_readsCondition 1 (some .boolean) RX10 p s m args meth c G DA) {h0 : Nat} {a0 : Nat → Nat}  {k40 : (Nat → Nat → Int32) → (Nat → Int32) → Option (Int32 × (Nat → Nat → Int32) × (Nat → Int32))} {k92 : (Nat → Nat → Int32) → (Nat → Int32) → Option (Int32 × (Nat → Nat → Int32) × (Nat → Int32))} {res : Int32 × (Nat → Nat → Int32) × (Nat → Int32)} (hk40 : ∀ (A0 : Nat → Nat → Int32) (f0 : Nat → Int32), k40 A0 f0 = some res → ∀ (H : Heap) (locs : List Loc) (ls : Array Slot), WD G DA (wX10 G h0 a0 f0 A0) H → va_S DA s.heap H locs → lv_has ls 1 [(0, .ref h0)] → W p l e rmX10_readsCondition s m args below meth c H locs 0 0 (MQ below (QI G DA res.1 (wX10 G h0 a0 res.2.2 res.2.1)) args s 0 0 DA) (F0 m 40 ls [])) (hk92 : ∀ (A0 : Nat → Nat → Int32) (f0 : Nat → Int32), k92 A0 f0 = some res → ∀ (H : Heap) (locs : List Loc) (ls : Array Slot), WD G DA (wX10 G h0 a0 f0 A0) H → va_S DA s.heap H locs → lv_has ls 1 [(0, .ref h0)] → W p l e rmX10_readsCondition s m args below meth c H locs 0 0 (MQ below (QI G DA res.1 (wX10 G h0 a0 res.2.2 res.2.1)) args s 0 0 DA) (F0 m 92 ls [])) : ∀ (A0 : Nat → Nat → Int32) (f0 : Nat → Int32), f10_readsCondition_b92  k40 k92 A0 f0 = some res → ∀ (H : Heap) (locs : List Loc) (ls : Array Slot), WD G DA (wX10 G h0 a0 f0 A0) H → va_S DA s.heap H locs → lv_has ls 1 [(0, .ref h0)] → W p l e rmX10_readsCondition s m args below meth c H locs 0 0 (MQ below (QI G DA res.1 (wX10 G h0 a0 res.2.2 res.2.1)) args s 0 0 DA) (F0 m 92 ls []) := by
  obtain ⟨hx, hb, hml, hown, hts⟩ := C0.1
  have hK := C0.2.2.2.1
  intro A0 f0 h _ _ _ hPD hS hl
  unfold f10_readsCondition_b92 at h
  refine lv_aload_n hx hb dX10_readsCondition_92 rfl (lv_at hl 0 rfl) ?_
  obtain ⟨q_10, hq_10, h⟩ := ob2 h
  refine kVI (As := []) (rest := []) C0 (kt_X10_here l G h0 a0 f0 A0 hq_10) gi_V_X10_144_X10_here (n := 0) rfl (by decide +kernel) rfl ⟨rfl, rfl, Nat.le_of_ble_eq_true rfl, Nat.le_of_ble_eq_true rfl⟩ hPD hS 0 10 rfl rfl rfl [0, 1, 2, 3, 4, 5, 6, 7, 8, 9, 10, 11, 12, 13, 14, 15, 16, 17, 18, 19, 20, 21, 22, 23, 24, 25, 26, 27, 28, 29, 30, 31, 32, 33] [] [0, 1, 2, 3, 4, 5, 6, 7, 8, 9, 10, 11, 12, 13, 14, 15, 16, 17, 18, 19, 20, 21, 22, 23, 24, 25, 26, 27, 28, 29, 30, 31, 32, 33] (wr := ([] : va_W)) (wN := (wX10 G h0 a0 f0 A0)) rfl rfl rfl rfl rfl hl.1 (Nat.le_of_ble_eq_true rfl) dX10_readsCondition_93 (fun H locs hPD hS => ?_)
  refine lv_bipush (v := 41) hx hb dX10_readsCondition_96 (by decide) ?_
  refine lv_icmp_ne (tgt := 152) hx hb dX10_readsCondition_98 (by decide) (fun cc1 => ?_) (fun cc1 => ?_)
  · have h := (if_neg cc1).symm.trans h
    refine lv_aload_n hx hb dX10_readsCondition_152 rfl (lv_at hl 0 rfl) ?_
    obtain ⟨q_11, hq_11, h⟩ := ob2 h
    refine kVI (As := []) (rest := []) C0 (kt_X10_here l G h0 a0 f0 A0 hq_11) gi_V_X10_144_X10_here (n := 0) rfl (by decide +kernel) rfl ⟨rfl, rfl, Nat.le_of_ble_eq_true rfl, Nat.le_of_ble_eq_true rfl⟩ hPD hS 0 10 rfl rfl rfl [0, 1, 2, 3, 4, 5, 6, 7, 8, 9, 10, 11, 12, 13, 14, 15, 16, 17, 18, 19, 20, 21, 22, 23, 24, 25, 26, 27, 28, 29, 30, 31, 32, 33] [] [0, 1, 2, 3, 4, 5, 6, 7, 8, 9, 10, 11, 12, 13, 14, 15, 16, 17, 18, 19, 20, 21, 22, 23, 24, 25, 26, 27, 28, 29, 30, 31, 32, 33] (wr := ([] : va_W)) (wN := (wX10 G h0 a0 f0 A0)) rfl rfl rfl rfl rfl hl.1 (Nat.le_of_ble_eq_true rfl) dX10_readsCondition_153 (fun H locs hPD hS => ?_)
    refine lv_bipush (v := 38) hx hb dX10_readsCondition_156 (by decide) ?_
    refine lv_icmp_eq (tgt := 180) hx hb dX10_readsCondition_158 (by decide) (fun cc1 => ?_) (fun cc1 => ?_)
    · have h := (if_pos cc1).symm.trans h
      exact ww_f10_readsCondition_b180 C0 hk40 A0 f0 h _ _ _ hPD hS (lv_sub hl [0] rfl)
    · have h := (if_neg cc1).symm.trans h
      refine lv_aload_n hx hb dX10_readsCondition_161 rfl (lv_at hl 0 rfl) ?_
      obtain ⟨q_17, hq_17, h⟩ := ob2 h
      refine kVI (As := []) (rest := []) C0 (kt_X10_here l G h0 a0 f0 A0 hq_17) gi_V_X10_144_X10_here (n := 0) rfl (by decide +kernel) rfl ⟨rfl, rfl, Nat.le_of_ble_eq_true rfl, Nat.le_of_ble_eq_true rfl⟩ hPD hS 0 10 rfl rfl rfl [0, 1, 2, 3, 4, 5, 6, 7, 8, 9, 10, 11, 12, 13, 14, 15, 16, 17, 18, 19, 20, 21, 22, 23, 24, 25, 26, 27, 28, 29, 30, 31, 32, 33] [] [0, 1, 2, 3, 4, 5, 6, 7, 8, 9, 10, 11, 12, 13, 14, 15, 16, 17, 18, 19, 20, 21, 22, 23, 24, 25, 26, 27, 28, 29, 30, 31, 32, 33] (wr := ([] : va_W)) (wN := (wX10 G h0 a0 f0 A0)) rfl rfl rfl rfl rfl hl.1 (Nat.le_of_ble_eq_true rfl) dX10_readsCondition_162 (fun H locs hPD hS => ?_)
      refine lv_bipush (v := 124) hx hb dX10_readsCondition_165 (by decide) ?_
      refine lv_icmp_eq (tgt := 180) hx hb dX10_readsCondition_167 (by decide) (fun cc1 => ?_) (fun cc1 => ?_)
      · have h := (if_pos cc1).symm.trans h
        exact ww_f10_readsCondition_b180 C0 hk40 A0 f0 h _ _ _ hPD hS (lv_sub hl [0] rfl)
      · have h := (if_neg cc1).symm.trans h
        refine lv_aload_n hx hb dX10_readsCondition_170 rfl (lv_at hl 0 rfl) ?_
        refine lv_iconst (v := 1) hx hb dX10_readsCondition_171 (by decide) ?_
        refine lv_aload_n hx hb dX10_readsCondition_172 rfl (lv_at hl 0 rfl) ?_
        refine va_get (D := G.1) (ci := 10) (v := .int (f0 9)) (C := RX10) (T := TX10) (N := 52) hx hb hts inlX10 hown hK hPD.1 0 rfl rfl 9 (by decide) (hts _ gw_551) (fun _ h9 => h9) rfl dX10_readsCondition_173 ?_
        obtain ⟨q_18, hq_18, h⟩ := ob2 h
        refine kVI (As := [.int 1, .int (f0 9)]) (rest := []) C0 (kt_X10_wrongAt l G h0 a0 f0 A0 1 (f0 9) hq_18) gi_V_X10_151_X10_wrongAt (n := 2) rfl (by decide +kernel) rfl ⟨rfl, rfl, Nat.le_of_ble_eq_true rfl, Nat.le_of_ble_eq_true rfl⟩ hPD hS 0 10 rfl rfl rfl [0, 1, 2, 3, 4, 5, 6, 7, 8, 9, 10, 11, 12, 13, 14, 15, 16, 17, 18, 19, 20, 21, 22, 23, 24, 25, 26, 27, 28, 29, 30, 31, 32, 33] [] [0, 1, 2, 3, 4, 5, 6, 7, 8, 9, 10, 11, 12, 13, 14, 15, 16, 17, 18, 19, 20, 21, 22, 23, 24, 25, 26, 27, 28, 29, 30, 31, 32, 33] (wr := ([] : va_W)) (wN := (wX10 G h0 a0 q_18.2 A0)) rfl rfl rfl rfl rfl hl.1 (Nat.le_of_ble_eq_true rfl) dX10_readsCondition_176 (fun H locs hPD hS => ?_)
        obtain ⟨hz, h⟩ := ob h
        obtain rfl := Option.some.inj h
        exact eZ C0 hPD.1 hPD.2 hS rfl (nbool (Classical.not_not.mp hz)) dX10_readsCondition_179
  · have h := (if_pos cc1).symm.trans h
    refine lv_aload_n hx hb dX10_readsCondition_101 rfl (lv_at hl 0 rfl) ?_
    refine lv_iconst (v := 1) hx hb dX10_readsCondition_102 (by decide) ?_
    obtain ⟨q_19, hq_19, h⟩ := ob2 h
    refine kVV (As := [.int 1]) (rest := []) C0 (kt_X10_lands l G h0 a0 f0 A0 1 hq_19) gi_V_X10_209_X10_lands (n := 1) rfl (by decide +kernel) rfl ⟨rfl, rfl, Nat.le_of_ble_eq_true rfl, Nat.le_of_ble_eq_true rfl⟩ hPD hS 0 10 rfl rfl rfl [0, 1, 2, 3, 4, 5, 6, 7, 8, 9, 10, 11, 12, 13, 14, 15, 16, 17, 18, 19, 20, 21, 22, 23, 24, 25, 26, 27, 28, 29, 30, 31, 32, 33] [] [0, 1, 2, 3, 4, 5, 6, 7, 8, 9, 10, 11, 12, 13, 14, 15, 16, 17, 18, 19, 20, 21, 22, 23, 24, 25, 26, 27, 28, 29, 30, 31, 32, 33] (wr := ([] : va_W)) (wN := (wX10 G h0 a0 q_19.2 q_19.1)) rfl rfl rfl rfl rfl hl.1 (Nat.le_of_ble_eq_true rfl) dX10_readsCondition_103 (fun H locs hPD hS => ?_)
    refine lv_aload_n hx hb dX10_readsCondition_106 rfl (lv_at hl 0 rfl) ?_
    refine lv_aload_n hx hb dX10_readsCondition_107 rfl (lv_at hl 0 rfl) ?_
    refine va_get (D := G.1) (ci := 10) (v := .int (q_19.2 15)) (C := RX10) (T := TX10) (N := 52) hx hb hts inlX10 hown hK hPD.1 0 rfl rfl 15 (by decide) (hts _ gw_572) (fun _ h9 => h9) rfl dX10_readsCondition_108 ?_
    refine lv_iconst (v := 1) hx hb dX10_readsCondition_111 (by decide) ?_
    refine lv_isub hx hb dX10_readsCondition_112 ?_
    refine va_put (D := G.1) (ci := 10) (v := .int ((q_19.2 15) - 1)) (ty := .int) (C := RX10) (T := TX10) (N := 52) hx hb hts inlX10 tyX10 tyX10_ok nmX10 hown hK hPD.1 hPD.2 hS 0 rfl rfl 15 (by decide) (hts _ gw_572) (fun _ h9 => h9) rfl (by decide +kernel) rfl rfl (Nat.le_of_ble_eq_true rfl) dX10_readsCondition_113 (fun H locs hP hD hS => ?_)
    obtain ⟨f0_20, ef0_20, h⟩ := lvl h
    have hPD : WD G DA (wX10 G h0 a0 f0_20 q_19.1) H := by rw [ef0_20]; exact ⟨hP, hD⟩
    clear ef0_20 hP hD
    refine lv_aload_n hx hb dX10_readsCondition_116 rfl (lv_at hl 0 rfl) ?_
    refine lv_aload_n hx hb dX10_readsCondition_117 rfl (lv_at hl 0 rfl) ?_
    refine va_get (D := G.1) (ci := 10) (v := .int (f0_20 13)) (C := RX10) (T := TX10) (N := 52) hx hb hts inlX10 hown hK hPD.1 0 rfl rfl 13 (by decide) (hts _ gw_570) (fun _ h9 => h9) rfl dX10_readsCondition_118 ?_
    refine lv_iconst (v := 1) hx hb dX10_readsCondition_121 (by decide) ?_
    refine lv_isub hx hb dX10_readsCondition_122 ?_
    refine va_put (D := G.1) (ci := 10) (v := .int ((f0_20 13) - 1)) (ty := .int) (C := RX10) (T := TX10) (N := 52) hx hb hts inlX10 tyX10 tyX10_ok nmX10 hown hK hPD.1 hPD.2 hS 0 rfl rfl 13 (by decide) (hts _ gw_570) (fun _ h9 => h9) rfl (by decide +kernel) rfl rfl (Nat.le_of_ble_eq_true rfl) dX10_readsCondition_123 (fun H locs hP hD hS => ?_)
    obtain ⟨f0_21, ef0_21, h⟩ := lvl h
    have hPD : WD G DA (wX10 G h0 a0 f0_21 q_19.1) H := by rw [ef0_21]; exact ⟨hP, hD⟩
    clear ef0_21 hP hD
    refine lv_aload_n hx hb dX10_readsCondition_126 rfl (lv_at hl 0 rfl) ?_
    refine lv_aload_n hx hb dX10_readsCondition_127 rfl (lv_at hl 0 rfl) ?_
    refine va_get (D := G.1) (ci := 10) (v := .int (f0_21 9)) (C := RX10) (T := TX10) (N := 52) hx hb hts inlX10 hown hK hPD.1 0 rfl rfl 9 (by decide) (hts _ gw_551) (fun _ h9 => h9) rfl dX10_readsCondition_128 ?_
    refine lv_iconst (v := 1) hx hb dX10_readsCondition_131 (by decide) ?_
    refine lv_iadd hx hb dX10_readsCondition_132 ?_
    refine va_put (D := G.1) (ci := 10) (v := .int ((f0_21 9) + 1)) (ty := .int) (C := RX10) (T := TX10) (N := 52) hx hb hts inlX10 tyX10 tyX10_ok nmX10 hown hK hPD.1 hPD.2 hS 0 rfl rfl 9 (by decide) (hts _ gw_551) (fun _ h9 => h9) rfl (by decide +kernel) rfl rfl (Nat.le_of_ble_eq_true rfl) dX10_readsCondition_133 (fun H locs hP hD hS => ?_)
    obtain ⟨f0_22, ef0_22, h⟩ := lvl h
    have hPD : WD G DA (wX10 G h0 a0 f0_22 q_19.1) H := by rw [ef0_22]; exact ⟨hP, hD⟩
    clear ef0_22 hP hD
    refine lv_aload_n hx hb dX10_readsCondition_136 rfl (lv_at hl 0 rfl) ?_
    refine va_get (D := G.1) (ci := 10) (v := .int (f0_22 15)) (C := RX10) (T := TX10) (N := 52) hx hb hts inlX10 hown hK hPD.1 0 rfl rfl 15 (by decide) (hts _ gw_572) (fun _ h9 => h9) rfl dX10_readsCondition_137 ?_
    refine lv_if_ne (tgt := 145) hx hb dX10_readsCondition_140 (by decide) (fun cc1 => ?_) (fun cc1 => ?_)
    · have h := (if_neg cc1).symm.trans h
      refine lv_aload_n hx hb dX10_readsCondition_145 rfl (lv_at hl 0 rfl) ?_
      obtain ⟨q_23, hq_23, h⟩ := ob2 h
      refine kVV (As := []) (rest := []) C0 (kt_X10_endsPiece l G h0 a0 f0_22 q_19.1 hq_23) gi_V_X10_203_X10_endsPiece (n := 0) rfl (by decide +kernel) rfl ⟨rfl, rfl, Nat.le_of_ble_eq_true rfl, Nat.le_of_ble_eq_true rfl⟩ hPD hS 0 10 rfl rfl rfl [0, 1, 2, 3, 4, 5, 6, 7, 8, 9, 10, 11, 12, 13, 14, 15, 16, 17, 18, 19, 20, 21, 22, 23, 24, 25, 26, 27, 28, 29, 30, 31, 32, 33] [] [0, 1, 2, 3, 4, 5, 6, 7, 8, 9, 10, 11, 12, 13, 14, 15, 16, 17, 18, 19, 20, 21, 22, 23, 24, 25, 26, 27, 28, 29, 30, 31, 32, 33] (wr := ([] : va_W)) (wN := (wX10 G h0 a0 q_23.2 q_23.1)) rfl rfl rfl rfl rfl hl.1 (Nat.le_of_ble_eq_true rfl) dX10_readsCondition_146 (fun H locs hPD hS => ?_)
      refine lv_goto (tgt := 92) hx hb dX10_readsCondition_149 (by decide) ?_
      exact hk92 q_23.1 q_23.2 h _ _ _ hPD hS (lv_sub hl [0] rfl)
    · have h := (if_pos cc1).symm.trans h
      refine lv_iconst (v := 1) hx hb dX10_readsCondition_143 (by decide) ?_
      obtain rfl := Option.some.inj h
      exact eZ C0 hPD.1 hPD.2 hS rfl rfl dX10_readsCondition_144
set_option maxRecDepth 100000 in
set_option maxHeartbeats 4000000 in
theorem ww_f10_readsCondition_l92  (C0 : Cx cX10_readsCondition 1 (some .boolean) RX10 p s m args meth c G DA) {h0 : Nat} {a0 : Nat → Nat}  {k40 : (Nat → Nat → Int32) → (Nat → Int32) → Option (Int32 × (Nat → Nat → Int32) × (Nat → Int32))} {res : Int32 × (Nat → Nat → Int32) × (Nat → Int32)} (hk40 : ∀ (A0 : Nat → Nat → Int32) (f0 : Nat → Int32), k40 A0 f0 = some res → ∀ (H : Heap) (locs : List Loc) (ls : Array Slot), WD G DA (wX10 G h0 a0 f0 A0) H → va_S DA s.heap H locs → lv_has ls 1 [(0, .ref h0)] → W p l e rmX10_readsCondition s m args below meth c H locs 0 0 (MQ below (QI G DA res.1 (wX10 G h0 a0 res.2.2 res.2.1)) args s 0 0 DA) (F0 m 40 ls [])) : ∀ (n : Nat) (A0 : Nat → Nat → Int32) (f0 : Nat → Int32), f10_readsCondition_l92  k40 n A0 f0 = some res → ∀ (H : Heap) (locs : List Loc) (ls : Array Slot), WD G DA (wX10 G h0 a0 f0 A0) H → va_S DA s.heap H locs → lv_has ls 1 [(0, .ref h0)] → W p l e rmX10_readsCondition s m args below meth c H locs 0 0 (MQ below (QI G DA res.1 (wX10 G h0 a0 res.2.2 res.2.1)) args s 0 0 DA) (F0 m 92 ls []) := by
  intro n
  induction n with
  | zero => intro A0 f0 h; cases h
  | succ n ih => intro A0 f0 h; exact ww_f10_readsCondition_b92 C0 hk40 ih A0 f0 h
set_option maxRecDepth 100000 in
set_option maxHeartbeats 4000000 in
theorem ww_f10_readsCondition_b40  (C0 : Cx cX10_readsCondition 1 (some .boolean) RX10 p s m args meth c G DA) {h0 : Nat} {a0 : Nat → Nat}  {k40 : (Nat → Nat → Int32) → (Nat → Int32) → Option (Int32 × (Nat → Nat → Int32) × (Nat → Int32))} {res : Int32 × (Nat → Nat → Int32) × (Nat → Int32)}  (hk40 : ∀ (A0 : Nat → Nat → Int32) (f0 : Nat → Int32), k40 A0 f0 = some res → ∀ (H : Heap) (locs : List Loc) (ls : Array Slot), WD G DA (wX10 G h0 a0 f0 A0) H → va_S DA s.heap H locs → lv_has ls 1 [(0, .ref h0)] → W p l e rmX10_readsCondition s m args below meth c H locs 0 0 (MQ below (QI G DA res.1 (wX10 G h0 a0 res.2.2 res.2.1)) args s 0 0 DA) (F0 m 40 ls [])) : ∀ (A0 : Nat → Nat → Int32) (f0 : Nat → Int32), f10_readsCondition_b40   k40 A0 f0 = some res → ∀ (H : Heap) (locs : List Loc) (ls : Array Slot), WD G DA (wX10 G h0 a0 f0 A0) H → va_S DA s.heap H locs → lv_has ls 1 [(0, .ref h0)] → W p l e rmX10_readsCondition s m args below meth c H locs 0 0 (MQ below (QI G DA res.1 (wX10 G h0 a0 res.2.2 res.2.1)) args s 0 0 DA) (F0 m 40 ls []) := by
  obtain ⟨hx, hb, hml, hown, hts⟩ := C0.1
  have hK := C0.2.2.2.1
  intro A0 f0 h _ _ _ hPD hS hl
  unfold f10_readsCondition_b40 at h
  refine lv_aload_n hx hb dX10_readsCondition_40 rfl (lv_at hl 0 rfl) ?_
  obtain ⟨q_5, hq_5, h⟩ := ob2 h
  refine kVI (As := []) (rest := []) C0 (kt_X10_here l G h0 a0 f0 A0 hq_5) gi_V_X10_144_X10_here (n := 0) rfl (by decide +kernel) rfl ⟨rfl, rfl, Nat.le_of_ble_eq_true rfl, Nat.le_of_ble_eq_true rfl⟩ hPD hS 0 10 rfl rfl rfl [0, 1, 2, 3, 4, 5, 6, 7, 8, 9, 10, 11, 12, 13, 14, 15, 16, 17, 18, 19, 20, 21, 22, 23, 24, 25, 26, 27, 28, 29, 30, 31, 32, 33] [] [0, 1, 2, 3, 4, 5, 6, 7, 8, 9, 10, 11, 12, 13, 14, 15, 16, 17, 18, 19, 20, 21, 22, 23, 24, 25, 26, 27, 28, 29, 30, 31, 32, 33] (wr := ([] : va_W)) (wN := (wX10 G h0 a0 f0 A0)) rfl rfl rfl rfl rfl hl.1 (Nat.le_of_ble_eq_true rfl) dX10_readsCondition_41 (fun H locs hPD hS => ?_)
  refine lv_bipush (v := 33) hx hb dX10_readsCondition_44 (by decide) ?_
  refine lv_icmp_eq (tgt := 58) hx hb dX10_readsCondition_46 (by decide) (fun cc1 => ?_) (fun cc1 => ?_)
  · have h := (if_pos cc1).symm.trans h
    exact ww_f10_readsCondition_b58 C0 hk40 A0 f0 h _ _ _ hPD hS (lv_sub hl [0] rfl)
  · have h := (if_neg cc1).symm.trans h
    refine lv_aload_n hx hb dX10_readsCondition_49 rfl (lv_at hl 0 rfl) ?_
    obtain ⟨q_8, hq_8, h⟩ := ob2 h
    refine kVI (As := []) (rest := []) C0 (kt_X10_here l G h0 a0 f0 A0 hq_8) gi_V_X10_144_X10_here (n := 0) rfl (by decide +kernel) rfl ⟨rfl, rfl, Nat.le_of_ble_eq_true rfl, Nat.le_of_ble_eq_true rfl⟩ hPD hS 0 10 rfl rfl rfl [0, 1, 2, 3, 4, 5, 6, 7, 8, 9, 10, 11, 12, 13, 14, 15, 16, 17, 18, 19, 20, 21, 22, 23, 24, 25, 26, 27, 28, 29, 30, 31, 32, 33] [] [0, 1, 2, 3, 4, 5, 6, 7, 8, 9, 10, 11, 12, 13, 14, 15, 16, 17, 18, 19, 20, 21, 22, 23, 24, 25, 26, 27, 28, 29, 30, 31, 32, 33] (wr := ([] : va_W)) (wN := (wX10 G h0 a0 f0 A0)) rfl rfl rfl rfl rfl hl.1 (Nat.le_of_ble_eq_true rfl) dX10_readsCondition_50 (fun H locs hPD hS => ?_)
    refine lv_bipush (v := 40) hx hb dX10_readsCondition_53 (by decide) ?_
    refine lv_icmp_ne (tgt := 83) hx hb dX10_readsCondition_55 (by decide) (fun cc1 => ?_) (fun cc1 => ?_)
    · have h := (if_neg cc1).symm.trans h
      refine lv_aload_n hx hb dX10_readsCondition_83 rfl (lv_at hl 0 rfl) ?_
      obtain ⟨q_9, hq_9, h⟩ := ob2 h
      refine kVI (As := []) (rest := []) C0 (kt_X10_readsCompared l G h0 a0 f0 A0 hq_9) gi_V_X10_206_X10_readsCompared (n := 0) rfl (by decide +kernel) rfl ⟨rfl, rfl, Nat.le_of_ble_eq_true rfl, Nat.le_of_ble_eq_true rfl⟩ hPD hS 0 10 rfl rfl rfl [0, 1, 2, 3, 4, 5, 6, 7, 8, 9, 10, 11, 12, 13, 14, 15, 16, 17, 18, 19, 20, 21, 22, 23, 24, 25, 26, 27, 28, 29, 30, 31, 32, 33] [] [0, 1, 2, 3, 4, 5, 6, 7, 8, 9, 10, 11, 12, 13, 14, 15, 16, 17, 18, 19, 20, 21, 22, 23, 24, 25, 26, 27, 28, 29, 30, 31, 32, 33] (wr := ([] : va_W)) (wN := (wX10 G h0 a0 q_9.2.2 q_9.2.1)) rfl rfl rfl rfl rfl hl.1 (Nat.le_of_ble_eq_true rfl) dX10_readsCondition_84 (fun H locs hPD hS => ?_)
      refine lv_if_ne (tgt := 92) hx hb dX10_readsCondition_87 (by decide) (fun cc1 => ?_) (fun cc1 => ?_)
      · have h := (if_neg cc1).symm.trans h
        exact ww_f10_readsCondition_l92 C0 hk40 NF q_9.2.1 q_9.2.2 h _ _ _ hPD hS (lv_sub hl [0] rfl)
      · have h := (if_pos cc1).symm.trans h
        refine lv_iconst (v := 0) hx hb dX10_readsCondition_90 (by decide) ?_
        obtain rfl := Option.some.inj h
        exact eZ C0 hPD.1 hPD.2 hS rfl rfl dX10_readsCondition_91
    · have h := (if_pos cc1).symm.trans h
      exact ww_f10_readsCondition_b58 C0 hk40 A0 f0 h _ _ _ hPD hS (lv_sub hl [0] rfl)
set_option maxRecDepth 100000 in
set_option maxHeartbeats 4000000 in
theorem ww_f10_readsCondition_l40  (C0 : Cx cX10_readsCondition 1 (some .boolean) RX10 p s m args meth c G DA) {h0 : Nat} {a0 : Nat → Nat}   {res : Int32 × (Nat → Nat → Int32) × (Nat → Int32)}  : ∀ (n : Nat) (A0 : Nat → Nat → Int32) (f0 : Nat → Int32), f10_readsCondition_l40   n A0 f0 = some res → ∀ (H : Heap) (locs : List Loc) (ls : Array Slot), WD G DA (wX10 G h0 a0 f0 A0) H → va_S DA s.heap H locs → lv_has ls 1 [(0, .ref h0)] → W p l e rmX10_readsCondition s m args below meth c H locs 0 0 (MQ below (QI G DA res.1 (wX10 G h0 a0 res.2.2 res.2.1)) args s 0 0 DA) (F0 m 40 ls []) := by
  intro n
  induction n with
  | zero => intro A0 f0 h; cases h
  | succ n ih => intro A0 f0 h; exact ww_f10_readsCondition_b40 C0  ih A0 f0 h
set_option maxRecDepth 100000 in
set_option maxHeartbeats 4000000 in
theorem kt_X10_readsCondition (l : Launch) (G : Gp) (h0 : Nat) (a0 : Nat → Nat) (f0 : Nat → Int32) (A0 : Nat → Nat → Int32) : ∀ {r : Int32 × (Nat → Nat → Int32) × (Nat → Int32)}, f10_readsCondition f0 A0 = some r → CtrI l yX10_readsCondition cX10_readsCondition 1 (some .boolean) rmX10_readsCondition G [.ref h0] (wX10 G h0 a0 f0 A0) r.1 (wX10 G h0 a0 r.2.2 r.2.1) := by
  intro res h
  refine ctrI_of (cc := cX10_readsCondition) (maxL := 1) (ret := (some .boolean)) (by decide +kernel) rfl (Nat.le_of_ble_eq_true rfl) (fun p e s m below meth c DA C0 hP hD ls hl => ?_)
  have hPD : WD G DA (wX10 G h0 a0 f0 A0) s.heap := ⟨hP, hD⟩
  have hS : va_S DA s.heap s.heap [] := va_S.rf
  have hl : lv_has ls 1 [(0, .ref h0)] := hl
  obtain ⟨hx, hb, hml, hown, hts⟩ := C0.1
  have hK := C0.2.2.2.1
  unfold f10_readsCondition at h
  refine lv_aload_n hx hb dX10_readsCondition_0 rfl (lv_at hl 0 rfl) ?_
  obtain ⟨q_1, hq_1, h⟩ := ob2 h
  refine kVI (As := []) (rest := []) C0 (kt_X10_here l G h0 a0 f0 A0 hq_1) gi_V_X10_144_X10_here (n := 0) rfl (by decide +kernel) rfl ⟨rfl, rfl, Nat.le_of_ble_eq_true rfl, Nat.le_of_ble_eq_true rfl⟩ hPD hS 0 10 rfl rfl rfl [0, 1, 2, 3, 4, 5, 6, 7, 8, 9, 10, 11, 12, 13, 14, 15, 16, 17, 18, 19, 20, 21, 22, 23, 24, 25, 26, 27, 28, 29, 30, 31, 32, 33] [] [0, 1, 2, 3, 4, 5, 6, 7, 8, 9, 10, 11, 12, 13, 14, 15, 16, 17, 18, 19, 20, 21, 22, 23, 24, 25, 26, 27, 28, 29, 30, 31, 32, 33] (wr := ([] : va_W)) (wN := (wX10 G h0 a0 f0 A0)) rfl rfl rfl rfl rfl hl.1 (Nat.le_of_ble_eq_true rfl) dX10_readsCondition_1 (fun H locs hPD hS => ?_)
  refine lv_bipush (v := 40) hx hb dX10_readsCondition_4 (by decide) ?_
  refine lv_icmp_eq (tgt := 19) hx hb dX10_readsCondition_6 (by decide) (fun cc1 => ?_) (fun cc1 => ?_)
  · have h := (if_pos cc1).symm.trans h
    refine lv_aload_n hx hb dX10_readsCondition_19 rfl (lv_at hl 0 rfl) ?_
    refine lv_iconst (v := 0) hx hb dX10_readsCondition_20 (by decide) ?_
    refine va_put (D := G.1) (ci := 10) (v := .int 0) (ty := .int) (C := RX10) (T := TX10) (N := 52) hx hb hts inlX10 tyX10 tyX10_ok nmX10 hown hK hPD.1 hPD.2 hS 0 rfl rfl 13 (by decide) (hts _ gw_570) (fun _ h9 => h9) rfl (by decide +kernel) rfl rfl (Nat.le_of_ble_eq_true rfl) dX10_readsCondition_21 (fun H locs hP hD hS => ?_)
    obtain ⟨f0_2, ef0_2, h⟩ := lvl h
    have hPD : WD G DA (wX10 G h0 a0 f0_2 A0) H := by rw [ef0_2]; exact ⟨hP, hD⟩
    clear ef0_2 hP hD
    refine lv_aload_n hx hb dX10_readsCondition_24 rfl (lv_at hl 0 rfl) ?_
    refine lv_iconst (v := 0) hx hb dX10_readsCondition_25 (by decide) ?_
    refine va_put (D := G.1) (ci := 10) (v := .int 0) (ty := .int) (C := RX10) (T := TX10) (N := 52) hx hb hts inlX10 tyX10 tyX10_ok nmX10 hown hK hPD.1 hPD.2 hS 0 rfl rfl 15 (by decide) (hts _ gw_572) (fun _ h9 => h9) rfl (by decide +kernel) rfl rfl (Nat.le_of_ble_eq_true rfl) dX10_readsCondition_26 (fun H locs hP hD hS => ?_)
    obtain ⟨f0_3, ef0_3, h⟩ := lvl h
    have hPD : WD G DA (wX10 G h0 a0 f0_3 A0) H := by rw [ef0_3]; exact ⟨hP, hD⟩
    clear ef0_3 hP hD
    refine lv_aload_n hx hb dX10_readsCondition_29 rfl (lv_at hl 0 rfl) ?_
    refine lv_bipush (v := 13) hx hb dX10_readsCondition_30 (by decide) ?_
    obtain ⟨q_4, hq_4, h⟩ := ob2 h
    refine kVI (As := [.int 13]) (rest := []) C0 (kt_X10_opens l G h0 a0 f0_3 A0 13 hq_4) gi_V_X10_177_X10_opens (n := 1) rfl (by decide +kernel) rfl ⟨rfl, rfl, Nat.le_of_ble_eq_true rfl, Nat.le_of_ble_eq_true rfl⟩ hPD hS 0 10 rfl rfl rfl [0, 1, 2, 3, 4, 5, 6, 7, 8, 9, 10, 11, 12, 13, 14, 15, 16, 17, 18, 19, 20, 21, 22, 23, 24, 25, 26, 27, 28, 29, 30, 31, 32, 33] [] [0, 1, 2, 3, 4, 5, 6, 7, 8, 9, 10, 11, 12, 13, 14, 15, 16, 17, 18, 19, 20, 21, 22, 23, 24, 25, 26, 27, 28, 29, 30, 31, 32, 33] (wr := ([] : va_W)) (wN := (wX10 G h0 a0 q_4.2.2 q_4.2.1)) rfl rfl rfl rfl rfl hl.1 (Nat.le_of_ble_eq_true rfl) dX10_readsCondition_32 (fun H locs hPD hS => ?_)
    refine lv_if_ne (tgt := 40) hx hb dX10_readsCondition_35 (by decide) (fun cc1 => ?_) (fun cc1 => ?_)
    · have h := (if_neg cc1).symm.trans h
      exact ww_f10_readsCondition_l40 C0 NF q_4.2.1 q_4.2.2 h _ _ _ hPD hS (lv_sub hl [0] rfl)
    · have h := (if_pos cc1).symm.trans h
      refine lv_iconst (v := 0) hx hb dX10_readsCondition_38 (by decide) ?_
      obtain rfl := Option.some.inj h
      exact eZ C0 hPD.1 hPD.2 hS rfl rfl dX10_readsCondition_39
  · have h := (if_neg cc1).symm.trans h
    refine lv_aload_n hx hb dX10_readsCondition_9 rfl (lv_at hl 0 rfl) ?_
    refine lv_iconst (v := 1) hx hb dX10_readsCondition_10 (by decide) ?_
    refine lv_aload_n hx hb dX10_readsCondition_11 rfl (lv_at hl 0 rfl) ?_
    refine va_get (D := G.1) (ci := 10) (v := .int (f0 9)) (C := RX10) (T := TX10) (N := 52) hx hb hts inlX10 hown hK hPD.1 0 rfl rfl 9 (by decide) (hts _ gw_551) (fun _ h9 => h9) rfl dX10_readsCondition_12 ?_
    obtain ⟨q_24, hq_24, h⟩ := ob2 h
    refine kVI (As := [.int 1, .int (f0 9)]) (rest := []) C0 (kt_X10_wrongAt l G h0 a0 f0 A0 1 (f0 9) hq_24) gi_V_X10_151_X10_wrongAt (n := 2) rfl (by decide +kernel) rfl ⟨rfl, rfl, Nat.le_of_ble_eq_true rfl, Nat.le_of_ble_eq_true rfl⟩ hPD hS 0 10 rfl rfl rfl [0, 1, 2, 3, 4, 5, 6, 7, 8, 9, 10, 11, 12, 13, 14, 15, 16, 17, 18, 19, 20, 21, 22, 23, 24, 25, 26, 27, 28, 29, 30, 31, 32, 33] [] [0, 1, 2, 3, 4, 5, 6, 7, 8, 9, 10, 11, 12, 13, 14, 15, 16, 17, 18, 19, 20, 21, 22, 23, 24, 25, 26, 27, 28, 29, 30, 31, 32, 33] (wr := ([] : va_W)) (wN := (wX10 G h0 a0 q_24.2 A0)) rfl rfl rfl rfl rfl hl.1 (Nat.le_of_ble_eq_true rfl) dX10_readsCondition_15 (fun H locs hPD hS => ?_)
    obtain ⟨hz, h⟩ := ob h
    obtain rfl := Option.some.inj h
    exact eZ C0 hPD.1 hPD.2 hS rfl (nbool (Classical.not_not.mp hz)) dX10_readsCondition_18
abbrev rmX10_readsRule : Room := { frames := 7, cells := 0, slots := 0, locals := 145 }
set_option maxRecDepth 100000 in
set_option maxHeartbeats 4000000 in
theorem ww_f10_readsRule_b110  (C0 : Cx cX10_readsRule 2 (some .boolean) RX10 p s m args meth c G DA) {h0 : Nat} {a0 : Nat → Nat}   {res : Int32 × (Nat → Nat → Int32) × (Nat → Int32)}  : ∀ (A0 : Nat → Nat → Int32) (f0 : Nat → Int32), f10_readsRule_b110   A0 f0 = some res → ∀ (H : Heap) (locs : List Loc) (ls : Array Slot), WD G DA (wX10 G h0 a0 f0 A0) H → va_S DA s.heap H locs → lv_has ls 2 [(0, .ref h0)] → W p l e rmX10_readsRule s m args below meth c H locs 0 0 (MQ below (QI G DA res.1 (wX10 G h0 a0 res.2.2 res.2.1)) args s 0 0 DA) (F0 m 110 ls []) := by
  obtain ⟨hx, hb, hml, hown, hts⟩ := C0.1
  have hK := C0.2.2.2.1
  intro A0 f0 h _ _ _ hPD hS hl
  unfold f10_readsRule_b110 at h
  refine lv_aload_n hx hb dX10_readsRule_110 rfl (lv_at hl 0 rfl) ?_
  refine va_get (D := G.1) (ci := 10) (v := .ref (a0 22)) (C := RX10) (T := TX10) (N := 52) hx hb hts inlX10 hown hK hPD.1 0 rfl rfl 22 (by decide) (hts _ gw_630) (fun _ h9 => h9) rfl dX10_readsRule_111 ?_
  refine lv_aload_n hx hb dX10_readsRule_114 rfl (lv_at hl 0 rfl) ?_
  refine va_get (D := G.1) (ci := 10) (v := .int (f0 16)) (C := RX10) (T := TX10) (N := 52) hx hb hts inlX10 hown hK hPD.1 0 rfl rfl 16 (by decide) (hts _ gw_627) (fun _ h9 => h9) rfl dX10_readsRule_115 ?_
  refine lv_aload_n hx hb dX10_readsRule_118 rfl (lv_at hl 0 rfl) ?_
  refine va_get (D := G.1) (ci := 10) (v := .int (f0 14)) (C := RX10) (T := TX10) (N := 52) hx hb hts inlX10 hown hK hPD.1 0 rfl rfl 14 (by decide) (hts _ gw_568) (fun _ h9 => h9) rfl dX10_readsRule_119 ?_
  obtain ⟨hi_9, h⟩ := ob h
  refine va_iast hx hb hK hPD.1 hPD.2 hS 12 1 rfl rfl hi_9 dX10_readsRule_122 (fun H locs hP hD hS => ?_)
  obtain ⟨A0_10, eA0_10, h⟩ := lvl h
  have hPD : WD G DA (wX10 G h0 a0 f0 A0_10) H := by rw [eA0_10]; exact ⟨hP, hD⟩
  clear eA0_10 hP hD
  refine lv_aload_n hx hb dX10_readsRule_123 rfl (lv_at hl 0 rfl) ?_
  obtain ⟨q_11, hq_11, h⟩ := ob2 h
  refine kVI (As := []) (rest := []) C0 (kt_X10_readsCondition l G h0 a0 f0 A0_10 hq_11) gi_V_X10_218_X10_readsCondition (n := 0) rfl (by decide +kernel) rfl ⟨rfl, rfl, Nat.le_of_ble_eq_true rfl, Nat.le_of_ble_eq_true rfl⟩ hPD hS 0 10 rfl rfl rfl [0, 1, 2, 3, 4, 5, 6, 7, 8, 9, 10, 11, 12, 13, 14, 15, 16, 17, 18, 19, 20, 21, 22, 23, 24, 25, 26, 27, 28, 29, 30, 31, 32, 33] [] [0, 1, 2, 3, 4, 5, 6, 7, 8, 9, 10, 11, 12, 13, 14, 15, 16, 17, 18, 19, 20, 21, 22, 23, 24, 25, 26, 27, 28, 29, 30, 31, 32, 33] (wr := ([] : va_W)) (wN := (wX10 G h0 a0 q_11.2.2 q_11.2.1)) rfl rfl rfl rfl rfl hl.1 (Nat.le_of_ble_eq_true rfl) dX10_readsRule_124 (fun H locs hPD hS => ?_)
  refine lv_if_ne (tgt := 132) hx hb dX10_readsRule_127 (by decide) (fun cc1 => ?_) (fun cc1 => ?_)
  · have h := (if_neg cc1).symm.trans h
    refine lv_aload_n hx hb dX10_readsRule_132 rfl (lv_at hl 0 rfl) ?_
    refine va_get (D := G.1) (ci := 10) (v := .ref (a0 23)) (C := RX10) (T := TX10) (N := 52) hx hb hts inlX10 hown hK hPD.1 0 rfl rfl 23 (by decide) (hts _ gw_635) (fun _ h9 => h9) rfl dX10_readsRule_133 ?_
    refine lv_aload_n hx hb dX10_readsRule_136 rfl (lv_at hl 0 rfl) ?_
    refine va_get (D := G.1) (ci := 10) (v := .int (q_11.2.2 16)) (C := RX10) (T := TX10) (N := 52) hx hb hts inlX10 hown hK hPD.1 0 rfl rfl 16 (by decide) (hts _ gw_627) (fun _ h9 => h9) rfl dX10_readsRule_137 ?_
    refine lv_aload_n hx hb dX10_readsRule_140 rfl (lv_at hl 0 rfl) ?_
    refine va_get (D := G.1) (ci := 10) (v := .int (q_11.2.2 14)) (C := RX10) (T := TX10) (N := 52) hx hb hts inlX10 hown hK hPD.1 0 rfl rfl 14 (by decide) (hts _ gw_568) (fun _ h9 => h9) rfl dX10_readsRule_141 ?_
    obtain ⟨hi_12, h⟩ := ob h
    refine va_iast hx hb hK hPD.1 hPD.2 hS 13 1 rfl rfl hi_12 dX10_readsRule_144 (fun H locs hP hD hS => ?_)
    obtain ⟨A0_13, eA0_13, h⟩ := lvl h
    have hPD : WD G DA (wX10 G h0 a0 q_11.2.2 A0_13) H := by rw [eA0_13]; exact ⟨hP, hD⟩
    clear eA0_13 hP hD
    refine lv_aload_n hx hb dX10_readsRule_145 rfl (lv_at hl 0 rfl) ?_
    refine lv_aload_n hx hb dX10_readsRule_146 rfl (lv_at hl 0 rfl) ?_
    refine va_get (D := G.1) (ci := 10) (v := .int (q_11.2.2 16)) (C := RX10) (T := TX10) (N := 52) hx hb hts inlX10 hown hK hPD.1 0 rfl rfl 16 (by decide) (hts _ gw_627) (fun _ h9 => h9) rfl dX10_readsRule_147 ?_
    refine lv_iconst (v := 1) hx hb dX10_readsRule_150 (by decide) ?_
    refine lv_iadd hx hb dX10_readsRule_151 ?_
    refine va_put (D := G.1) (ci := 10) (v := .int ((q_11.2.2 16) + 1)) (ty := .int) (C := RX10) (T := TX10) (N := 52) hx hb hts inlX10 tyX10 tyX10_ok nmX10 hown hK hPD.1 hPD.2 hS 0 rfl rfl 16 (by decide) (hts _ gw_627) (fun _ h9 => h9) rfl (by decide +kernel) rfl rfl (Nat.le_of_ble_eq_true rfl) dX10_readsRule_152 (fun H locs hP hD hS => ?_)
    obtain ⟨f0_14, ef0_14, h⟩ := lvl h
    have hPD : WD G DA (wX10 G h0 a0 f0_14 A0_13) H := by rw [ef0_14]; exact ⟨hP, hD⟩
    clear ef0_14 hP hD
    refine lv_iconst (v := 1) hx hb dX10_readsRule_155 (by decide) ?_
    obtain rfl := Option.some.inj h
    exact eZ C0 hPD.1 hPD.2 hS rfl rfl dX10_readsRule_156
  · have h := (if_pos cc1).symm.trans h
    refine lv_iconst (v := 0) hx hb dX10_readsRule_130 (by decide) ?_
    obtain rfl := Option.some.inj h
    exact eZ C0 hPD.1 hPD.2 hS rfl rfl dX10_readsRule_131
end WALK
