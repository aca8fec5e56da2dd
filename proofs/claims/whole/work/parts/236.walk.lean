section WALK
variable {p : Program} {l : Launch} {e : Env} {s : State} {m : MethodId} {args : Array Value} {below : List Frame} {meth : Method} {c : Code} {G : Gp} {DA : Nat → Prop}
set_option maxRecDepth 100000 in
set_option maxHeartbeats 4000000 in
theorem ww_f10_beat_l50  (C0 : Cx cX10_beat 5 (some .int) RX10 p s m args meth c G DA) {h0 : Nat} {a0 : Nat → Nat} {p1 : Int32} {p2 : Int32}   {res : Int32 × (Nat → Nat → Int32) × (Nat → Int32)}  : ∀ (n : Nat) (A0 : Nat → Nat → Int32) (f0 : Nat → Int32) (l3 : Int32), f10_beat_l50 p1 p2  n A0 f0 l3 = some res → ∀ (H : Heap) (locs : List Loc) (ls : Array Slot), WD G DA (wX10 G h0 a0 f0 A0) H → va_S DA s.heap H locs → lv_has ls 5 [(0, .ref h0), (1, .int p1), (2, .int p2), (3, .int l3)] → W p l e rmX10_beat s m args below meth c H locs 0 0 (MQ below (QI G DA res.1 (wX10 G h0 a0 res.2.2 res.2.1)) args s 0 0 DA) (F0 m 50 ls []) := by
  intro n
  induction n with
  | zero => intro A0 f0 l3 h; cases h
  | succ n ih => intro A0 f0 l3 h; exact ww_f10_beat_b50 C0  ih A0 f0 l3 h
set_option maxRecDepth 100000 in
set_option maxHeartbeats 4000000 in
theorem kt_X10_beat (l : Launch) (G : Gp) (h0 : Nat) (a0 : Nat → Nat) (f0 : Nat → Int32) (A0 : Nat → Nat → Int32) (p1 : Int32) (p2 : Int32) : ∀ {r : Int32 × (Nat → Nat → Int32) × (Nat → Int32)}, f10_beat f0 A0 p1 p2 = some r → CtrI l yX10_beat cX10_beat 5 (some .int) rmX10_beat G [.ref h0, .int p1, .int p2] (wX10 G h0 a0 f0 A0) r.1 (wX10 G h0 a0 r.2.2 r.2.1) := by
  intro res h
  refine ctrI_of (cc := cX10_beat) (maxL := 5) (ret := (some .int)) (by decide +kernel) rfl (Nat.le_of_ble_eq_true rfl) (fun p e s m below meth c DA C0 hP hD ls hl => ?_)
  have hPD : WD G DA (wX10 G h0 a0 f0 A0) s.heap := ⟨hP, hD⟩
  have hS : va_S DA s.heap s.heap [] := va_S.rf
  have hl : lv_has ls 5 [(0, .ref h0), (1, .int p1), (2, .int p2)] := hl
  obtain ⟨hx, hb, hml, hown, hts⟩ := C0.1
  have hK := C0.2.2.2.1
  unfold f10_beat at h
  refine lv_iload_n hx hb dX10_beat_0 rfl (lv_at hl 1 rfl) ?_
  refine lv_iconst (v := 0) hx hb dX10_beat_1 (by decide) ?_
  refine lv_bipush (v := 7) hx hb dX10_beat_2 (by decide) ?_
  refine kSI (As := [.int p1, .int 0, .int 7]) (rest := []) C0 (kt_X10_in l G  p1 0 7) gi_S_X10_112_X10_in (n := 3) rfl (by decide +kernel) ⟨rfl, rfl, Nat.le_of_ble_eq_true rfl, Nat.le_of_ble_eq_true rfl⟩ hPD hS [] [0, 1, 2, 3, 4, 5, 6, 7, 8, 9, 10, 11, 12, 13, 14, 15, 16, 17, 18, 19, 20, 21, 22, 23, 24, 25, 26, 27, 28, 29, 30, 31, 32, 33] [0, 1, 2, 3, 4, 5, 6, 7, 8, 9, 10, 11, 12, 13, 14, 15, 16, 17, 18, 19, 20, 21, 22, 23, 24, 25, 26, 27, 28, 29, 30, 31, 32, 33] (wr := (wX10 G h0 a0 f0 A0)) (wN := (wX10 G h0 a0 f0 A0)) rfl rfl rfl rfl rfl hl.1 (Nat.le_of_ble_eq_true rfl) dX10_beat_4 (fun H locs hPD hS => ?_)
  refine lv_if_eq (tgt := 28) hx hb dX10_beat_7 (by decide) (fun cc1 => ?_) (fun cc1 => ?_)
  · have h := (if_pos cc1).symm.trans h
    refine lv_iconst (v := (-1)) hx hb dX10_beat_28 (by decide) ?_
    obtain rfl := Option.some.inj h
    exact eI C0 hPD.1 hPD.2 hS rfl dX10_beat_29
  · have h := (if_neg cc1).symm.trans h
    refine lv_iload_n hx hb dX10_beat_10 rfl (lv_at hl 2 rfl) ?_
    refine lv_iconst (v := 1) hx hb dX10_beat_11 (by decide) ?_
    refine lv_bipush (v := 60) hx hb dX10_beat_12 (by decide) ?_
    refine kSI (As := [.int p2, .int 1, .int 60]) (rest := []) C0 (kt_X10_in l G  p2 1 60) gi_S_X10_112_X10_in (n := 3) rfl (by decide +kernel) ⟨rfl, rfl, Nat.le_of_ble_eq_true rfl, Nat.le_of_ble_eq_true rfl⟩ hPD hS [] [0, 1, 2, 3, 4, 5, 6, 7, 8, 9, 10, 11, 12, 13, 14, 15, 16, 17, 18, 19, 20, 21, 22, 23, 24, 25, 26, 27, 28, 29, 30, 31, 32, 33] [0, 1, 2, 3, 4, 5, 6, 7, 8, 9, 10, 11, 12, 13, 14, 15, 16, 17, 18, 19, 20, 21, 22, 23, 24, 25, 26, 27, 28, 29, 30, 31, 32, 33] (wr := (wX10 G h0 a0 f0 A0)) (wN := (wX10 G h0 a0 f0 A0)) rfl rfl rfl rfl rfl hl.1 (Nat.le_of_ble_eq_true rfl) dX10_beat_14 (fun H locs hPD hS => ?_)
    refine lv_if_eq (tgt := 28) hx hb dX10_beat_17 (by decide) (fun cc1 => ?_) (fun cc1 => ?_)
    · have h := (if_pos cc1).symm.trans h
      refine lv_iconst (v := (-1)) hx hb dX10_beat_28 (by decide) ?_
      obtain rfl := Option.some.inj h
      exact eI C0 hPD.1 hPD.2 hS rfl dX10_beat_29
    · have h := (if_neg cc1).symm.trans h
      refine lv_iload_n hx hb dX10_beat_20 rfl (lv_at hl 2 rfl) ?_
      refine lv_aload_n hx hb dX10_beat_21 rfl (lv_at hl 0 rfl) ?_
      refine va_get (D := G.1) (ci := 10) (v := .int (f0 8)) (C := RX10) (T := TX10) (N := 52) hx hb hts inlX10 hown hK hPD.1 0 rfl rfl 8 (by decide) (hts _ gw_546) (fun _ h9 => h9) rfl dX10_beat_22 ?_
      refine lv_icmp_le (tgt := 30) hx hb dX10_beat_25 (by decide) (fun cc1 => ?_) (fun cc1 => ?_)
      · have h := (if_pos cc1).symm.trans h
        refine lv_aload_n hx hb dX10_beat_30 rfl (lv_at hl 0 rfl) ?_
        refine lv_iload_n hx hb dX10_beat_31 rfl (lv_at hl 2 rfl) ?_
        obtain ⟨z_1, ez_1, h⟩ := lvl h
        have kc := kt_X10_beginsText l G h0 a0 f0 A0 p2
        rw [← ez_1] at kc
        clear ez_1
        refine kVV (As := [.int p2]) (rest := []) C0 (kc) gi_V_X10_221_X10_beginsText (n := 1) rfl (by decide +kernel) rfl ⟨rfl, rfl, Nat.le_of_ble_eq_true rfl, Nat.le_of_ble_eq_true rfl⟩ hPD hS 0 10 rfl rfl rfl [0, 1, 2, 3, 4, 5, 6, 7, 8, 9, 10, 11, 12, 13, 14, 15, 16, 17, 18, 19, 20, 21, 22, 23, 24, 25, 26, 27, 28, 29, 30, 31, 32, 33] [] [0, 1, 2, 3, 4, 5, 6, 7, 8, 9, 10, 11, 12, 13, 14, 15, 16, 17, 18, 19, 20, 21, 22, 23, 24, 25, 26, 27, 28, 29, 30, 31, 32, 33] (wr := ([] : va_W)) (wN := (wX10 G h0 a0 z_1 A0)) rfl rfl rfl rfl rfl hl.1 (Nat.le_of_ble_eq_true rfl) dX10_beat_32 (fun H locs hPD hS => ?_)
        refine lv_aload_n hx hb dX10_beat_35 rfl (lv_at hl 0 rfl) ?_
        refine lv_iconst (v := 0) hx hb dX10_beat_36 (by decide) ?_
        refine va_put (D := G.1) (ci := 10) (v := .int 0) (ty := .int) (C := RX10) (T := TX10) (N := 52) hx hb hts inlX10 tyX10 tyX10_ok nmX10 hown hK hPD.1 hPD.2 hS 0 rfl rfl 35 (by decide) (hts _ gw_677) (fun _ h9 => h9) rfl (by decide +kernel) rfl rfl (Nat.le_of_ble_eq_true rfl) dX10_beat_37 (fun H locs hP hD hS => ?_)
        obtain ⟨f0_2, ef0_2, h⟩ := lvl h
        have hPD : WD G DA (wX10 G h0 a0 f0_2 A0) H := by rw [ef0_2]; exact ⟨hP, hD⟩
        clear ef0_2 hP hD
        refine lv_aload_n hx hb dX10_beat_40 rfl (lv_at hl 0 rfl) ?_
        refine lv_iconst (v := 0) hx hb dX10_beat_41 (by decide) ?_
        refine va_put (D := G.1) (ci := 10) (v := .int 0) (ty := .int) (C := RX10) (T := TX10) (N := 52) hx hb hts inlX10 tyX10 tyX10_ok nmX10 hown hK hPD.1 hPD.2 hS 0 rfl rfl 36 (by decide) (hts _ gw_687) (fun _ h9 => h9) rfl (by decide +kernel) rfl rfl (Nat.le_of_ble_eq_true rfl) dX10_beat_42 (fun H locs hP hD hS => ?_)
        obtain ⟨f0_3, ef0_3, h⟩ := lvl h
        have hPD : WD G DA (wX10 G h0 a0 f0_3 A0) H := by rw [ef0_3]; exact ⟨hP, hD⟩
        clear ef0_3 hP hD
        refine lv_aload_n hx hb dX10_beat_45 rfl (lv_at hl 0 rfl) ?_
        obtain ⟨q_4, hq_4, h⟩ := ob2 h
        refine kVI (As := []) (rest := []) C0 (kt_X10_readsStep l G h0 a0 f0_3 A0 hq_4) gi_V_X10_268_X10_readsStep (n := 0) rfl (by decide +kernel) rfl ⟨rfl, rfl, Nat.le_of_ble_eq_true rfl, Nat.le_of_ble_eq_true rfl⟩ hPD hS 0 10 rfl rfl rfl [0, 1, 2, 3, 4, 5, 6, 7, 8, 9, 10, 11, 12, 13, 14, 15, 16, 17, 18, 19, 20, 21, 22, 23, 24, 25, 26, 27, 28, 29, 30, 31, 32, 33] [] [0, 1, 2, 3, 4, 5, 6, 7, 8, 9, 10, 11, 12, 13, 14, 15, 16, 17, 18, 19, 20, 21, 22, 23, 24, 25, 26, 27, 28, 29, 30, 31, 32, 33] (wr := ([] : va_W)) (wN := (wX10 G h0 a0 q_4.2.2 q_4.2.1)) rfl rfl rfl rfl rfl hl.1 (Nat.le_of_ble_eq_true rfl) dX10_beat_46 (fun H locs hPD hS => ?_)
        refine lv_istore_n (lv' := [(3, .int q_4.1), (0, .ref h0), (1, .int p1), (2, .int p2)]) hx hb dX10_beat_49 rfl hl (by decide) rfl (fun ls hl => ?_)
        exact ww_f10_beat_l50 C0 NF q_4.2.1 q_4.2.2 q_4.1 h _ _ _ hPD hS (lv_sub hl [1, 2, 3, 0] rfl)
      · have h := (if_neg cc1).symm.trans h
        refine lv_iconst (v := (-1)) hx hb dX10_beat_28 (by decide) ?_
        obtain rfl := Option.some.inj h
        exact eI C0 hPD.1 hPD.2 hS rfl dX10_beat_29
abbrev rmX10_isLetter : Room := { frames := 1, cells := 0, slots := 0, locals := 22 }
set_option maxRecDepth 100000 in
set_option maxHeartbeats 4000000 in
theorem kt_X10_isLetter (l : Launch) (G : Gp) (h0 : Nat) (a0 : Nat → Nat) (f0 : Nat → Int32) (A0 : Nat → Nat → Int32) : ∀ {r : Int32}, f10_isLetter f0 A0 = some r → CtrI l yX10_isLetter cX10_isLetter 1 (some .boolean) rmX10_isLetter G [.ref h0] (wX10 G h0 a0 f0 A0) r (wX10 G h0 a0 f0 A0) := by
  intro res h
  refine ctrI_of (cc := cX10_isLetter) (maxL := 1) (ret := (some .boolean)) (by decide +kernel) rfl (Nat.le_of_ble_eq_true rfl) (fun p e s m below meth c DA C0 hP hD ls hl => ?_)
  have hPD : WD G DA (wX10 G h0 a0 f0 A0) s.heap := ⟨hP, hD⟩
  have hS : va_S DA s.heap s.heap [] := va_S.rf
  have hl : lv_has ls 1 [(0, .ref h0)] := hl
  obtain ⟨hx, hb, hml, hown, hts⟩ := C0.1
  have hK := C0.2.2.2.1
  unfold f10_isLetter at h
  refine lv_aload_n hx hb dX10_isLetter_0 rfl (lv_at hl 0 rfl) ?_
  obtain ⟨q_1, hq_1, h⟩ := ob2 h
  refine kVI (As := []) (rest := []) C0 (kt_X10_here l G h0 a0 f0 A0 hq_1) gi_V_X10_144_X10_here (n := 0) rfl (by decide +kernel) rfl ⟨rfl, rfl, Nat.le_of_ble_eq_true rfl, Nat.le_of_ble_eq_true rfl⟩ hPD hS 0 10 rfl rfl rfl [0, 1, 2, 3, 4, 5, 6, 7, 8, 9, 10, 11, 12, 13, 14, 15, 16, 17, 18, 19, 20, 21, 22, 23, 24, 25, 26, 27, 28, 29, 30, 31, 32, 33] [] [0, 1, 2, 3, 4, 5, 6, 7, 8, 9, 10, 11, 12, 13, 14, 15, 16, 17, 18, 19, 20, 21, 22, 23, 24, 25, 26, 27, 28, 29, 30, 31, 32, 33] (wr := ([] : va_W)) (wN := (wX10 G h0 a0 f0 A0)) rfl rfl rfl rfl rfl hl.1 (Nat.le_of_ble_eq_true rfl) dX10_isLetter_1 (fun H locs hPD hS => ?_)
  refine lv_bipush (v := 97) hx hb dX10_isLetter_4 (by decide) ?_
  refine lv_isub hx hb dX10_isLetter_6 ?_
  refine lv_iconst (v := 0) hx hb dX10_isLetter_7 (by decide) ?_
  refine lv_bipush (v := 15) hx hb dX10_isLetter_8 (by decide) ?_
  refine kSI (As := [.int (q_1 - 97), .int 0, .int 15]) (rest := []) C0 (kt_X10_in l G  (q_1 - 97) 0 15) gi_S_X10_112_X10_in (n := 3) rfl (by decide +kernel) ⟨rfl, rfl, Nat.le_of_ble_eq_true rfl, Nat.le_of_ble_eq_true rfl⟩ hPD hS [] [0, 1, 2, 3, 4, 5, 6, 7, 8, 9, 10, 11, 12, 13, 14, 15, 16, 17, 18, 19, 20, 21, 22, 23, 24, 25, 26, 27, 28, 29, 30, 31, 32, 33] [0, 1, 2, 3, 4, 5, 6, 7, 8, 9, 10, 11, 12, 13, 14, 15, 16, 17, 18, 19, 20, 21, 22, 23, 24, 25, 26, 27, 28, 29, 30, 31, 32, 33] (wr := (wX10 G h0 a0 f0 A0)) (wN := (wX10 G h0 a0 f0 A0)) rfl rfl rfl rfl rfl hl.1 (Nat.le_of_ble_eq_true rfl) dX10_isLetter_10 (fun H locs hPD hS => ?_)
  obtain ⟨hz, h⟩ := ob h
  obtain rfl := Option.some.inj h
  exact eZ C0 hPD.1 hPD.2 hS rfl (nbool (Classical.not_not.mp hz)) dX10_isLetter_13
abbrev rmX10_readsAmount : Room := { frames := 2, cells := 0, slots := 0, locals := 40 }
set_option maxRecDepth 100000 in
set_option maxHeartbeats 4000000 in
theorem ww_f10_readsAmount_b27  (C0 : Cx cX10_readsAmount 3 (some .boolean) RX10 p s m args meth c G DA) {h0 : Nat} {a0 : Nat → Nat} {A0 : Nat → Nat → Int32} {p1 : Int32}  {k27 : (Nat → Int32) → Int32 → Option (Int32 × (Nat → Int32))} {res : Int32 × (Nat → Int32)}  (hk27 : ∀ (f0 : Nat → Int32) (l2 : Int32), k27 f0 l2 = some res → ∀ (H : Heap) (locs : List Loc) (ls : Array Slot), WD G DA (wX10 G h0 a0 f0 A0) H → va_S DA s.heap H locs → lv_has ls 3 [(0, .ref h0), (1, .int p1), (2, .int l2)] → W p l e rmX10_readsAmount s m args below meth c H locs 0 0 (MQ below (QI G DA res.1 (wX10 G h0 a0 res.2 A0)) args s 0 0 DA) (F0 m 27 ls [])) : ∀ (f0 : Nat → Int32) (l2 : Int32), f10_readsAmount_b27 A0 p1  k27 f0 l2 = some res → ∀ (H : Heap) (locs : List Loc) (ls : Array Slot), WD G DA (wX10 G h0 a0 f0 A0) H → va_S DA s.heap H locs → lv_has ls 3 [(0, .ref h0), (1, .int p1), (2, .int l2)] → W p l e rmX10_readsAmount s m args below meth c H locs 0 0 (MQ below (QI G DA res.1 (wX10 G h0 a0 res.2 A0)) args s 0 0 DA) (F0 m 27 ls []) := by
  obtain ⟨hx, hb, hml, hown, hts⟩ := C0.1
  have hK := C0.2.2.2.1
  intro f0 l2 h _ _ _ hPD hS hl
  unfold f10_readsAmount_b27 at h
  refine lv_aload_n hx hb dX10_readsAmount_27 rfl (lv_at hl 0 rfl) ?_
  obtain ⟨q_3, hq_3, h⟩ := ob2 h
  refine kVI (As := []) (rest := []) C0 (kt_X10_isDigit l G h0 a0 f0 A0 hq_3) gi_V_X10_157_X10_isDigit (n := 0) rfl (by decide +kernel) rfl ⟨rfl, rfl, Nat.le_of_ble_eq_true rfl, Nat.le_of_ble_eq_true rfl⟩ hPD hS 0 10 rfl rfl rfl [0, 1, 2, 3, 4, 5, 6, 7, 8, 9, 10, 11, 12, 13, 14, 15, 16, 17, 18, 19, 20, 21, 22, 23, 24, 25, 26, 27, 28, 29, 30, 31, 32, 33] [] [0, 1, 2, 3, 4, 5, 6, 7, 8, 9, 10, 11, 12, 13, 14, 15, 16, 17, 18, 19, 20, 21, 22, 23, 24, 25, 26, 27, 28, 29, 30, 31, 32, 33] (wr := ([] : va_W)) (wN := (wX10 G h0 a0 f0 A0)) rfl rfl rfl rfl rfl hl.1 (Nat.le_of_ble_eq_true rfl) dX10_readsAmount_28 (fun H locs hPD hS => ?_)
  refine lv_if_eq (tgt := 86) hx hb dX10_readsAmount_31 (by decide) (fun cc1 => ?_) (fun cc1 => ?_)
  · have h := (if_pos cc1).symm.trans h
    refine lv_iconst (v := 1) hx hb dX10_readsAmount_86 (by decide) ?_
    obtain rfl := Option.some.inj h
    exact eZ C0 hPD.1 hPD.2 hS rfl rfl dX10_readsAmount_87
  · have h := (if_neg cc1).symm.trans h
    refine lv_aload_n hx hb dX10_readsAmount_34 rfl (lv_at hl 0 rfl) ?_
    refine va_get (D := G.1) (ci := 10) (v := .int (f0 9)) (C := RX10) (T := TX10) (N := 52) hx hb hts inlX10 hown hK hPD.1 0 rfl rfl 9 (by decide) (hts _ gw_551) (fun _ h9 => h9) rfl dX10_readsAmount_35 ?_
    refine lv_iload_n hx hb dX10_readsAmount_38 rfl (lv_at hl 2 rfl) ?_
    refine lv_iload_n hx hb dX10_readsAmount_39 rfl (lv_at hl 1 rfl) ?_
    refine lv_iadd hx hb dX10_readsAmount_40 ?_
    refine lv_icmp_ne (tgt := 54) hx hb dX10_readsAmount_41 (by decide) (fun cc1 => ?_) (fun cc1 => ?_)
    · have h := (if_neg cc1).symm.trans h
      refine lv_aload_n hx hb dX10_readsAmount_54 rfl (lv_at hl 0 rfl) ?_
      refine lv_bipush (v := 10) hx hb dX10_readsAmount_55 (by decide) ?_
      refine lv_aload_n hx hb dX10_readsAmount_57 rfl (lv_at hl 0 rfl) ?_
      refine va_get (D := G.1) (ci := 10) (v := .int (f0 12)) (C := RX10) (T := TX10) (N := 52) hx hb hts inlX10 hown hK hPD.1 0 rfl rfl 12 (by decide) (hts _ gw_562) (fun _ h9 => h9) rfl dX10_readsAmount_58 ?_
      refine lv_imul hx hb dX10_readsAmount_61 ?_
      refine lv_aload_n hx hb dX10_readsAmount_62 rfl (lv_at hl 0 rfl) ?_
      obtain ⟨q_4, hq_4, h⟩ := ob2 h
      refine kVI (As := []) (rest := [.int (10 * (f0 12)), .ref h0]) C0 (kt_X10_here l G h0 a0 f0 A0 hq_4) gi_V_X10_144_X10_here (n := 0) rfl (by decide +kernel) rfl ⟨rfl, rfl, Nat.le_of_ble_eq_true rfl, Nat.le_of_ble_eq_true rfl⟩ hPD hS 0 10 rfl rfl rfl [0, 1, 2, 3, 4, 5, 6, 7, 8, 9, 10, 11, 12, 13, 14, 15, 16, 17, 18, 19, 20, 21, 22, 23, 24, 25, 26, 27, 28, 29, 30, 31, 32, 33] [] [0, 1, 2, 3, 4, 5, 6, 7, 8, 9, 10, 11, 12, 13, 14, 15, 16, 17, 18, 19, 20, 21, 22, 23, 24, 25, 26, 27, 28, 29, 30, 31, 32, 33] (wr := ([] : va_W)) (wN := (wX10 G h0 a0 f0 A0)) rfl rfl rfl rfl rfl hl.1 (Nat.le_of_ble_eq_true rfl) dX10_readsAmount_63 (fun H locs hPD hS => ?_)
      refine lv_iadd hx hb dX10_readsAmount_66 ?_
      refine lv_bipush (v := 48) hx hb dX10_readsAmount_67 (by decide) ?_
      refine lv_isub hx hb dX10_readsAmount_69 ?_
      refine va_put (D := G.1) (ci := 10) (v := .int (((10 * (f0 12)) + q_4) - 48)) (ty := .int) (C := RX10) (T := TX10) (N := 52) hx hb hts inlX10 tyX10 tyX10_ok nmX10 hown hK hPD.1 hPD.2 hS 0 rfl rfl 12 (by decide) (hts _ gw_562) (fun _ h9 => h9) rfl (by decide +kernel) rfl rfl (Nat.le_of_ble_eq_true rfl) dX10_readsAmount_70 (fun H locs hP hD hS => ?_)
      obtain ⟨f0_5, ef0_5, h⟩ := lvl h
      have hPD : WD G DA (wX10 G h0 a0 f0_5 A0) H := by rw [ef0_5]; exact ⟨hP, hD⟩
      clear ef0_5 hP hD
      refine lv_aload_n hx hb dX10_readsAmount_73 rfl (lv_at hl 0 rfl) ?_
      refine lv_aload_n hx hb dX10_readsAmount_74 rfl (lv_at hl 0 rfl) ?_
      refine va_get (D := G.1) (ci := 10) (v := .int (f0_5 9)) (C := RX10) (T := TX10) (N := 52) hx hb hts inlX10 hown hK hPD.1 0 rfl rfl 9 (by decide) (hts _ gw_551) (fun _ h9 => h9) rfl dX10_readsAmount_75 ?_
      refine lv_iconst (v := 1) hx hb dX10_readsAmount_78 (by decide) ?_
      refine lv_iadd hx hb dX10_readsAmount_79 ?_
      refine va_put (D := G.1) (ci := 10) (v := .int ((f0_5 9) + 1)) (ty := .int) (C := RX10) (T := TX10) (N := 52) hx hb hts inlX10 tyX10 tyX10_ok nmX10 hown hK hPD.1 hPD.2 hS 0 rfl rfl 9 (by decide) (hts _ gw_551) (fun _ h9 => h9) rfl (by decide +kernel) rfl rfl (Nat.le_of_ble_eq_true rfl) dX10_readsAmount_80 (fun H locs hP hD hS => ?_)
      obtain ⟨f0_6, ef0_6, h⟩ := lvl h
      have hPD : WD G DA (wX10 G h0 a0 f0_6 A0) H := by rw [ef0_6]; exact ⟨hP, hD⟩
      clear ef0_6 hP hD
      refine lv_goto (tgt := 27) hx hb dX10_readsAmount_83 (by decide) ?_
      exact hk27 f0_6 l2 h _ _ _ hPD hS (lv_sub hl [0, 1, 2] rfl)
    · have h := (if_pos cc1).symm.trans h
      refine lv_aload_n hx hb dX10_readsAmount_44 rfl (lv_at hl 0 rfl) ?_
      refine lv_iconst (v := 2) hx hb dX10_readsAmount_45 (by decide) ?_
      refine lv_aload_n hx hb dX10_readsAmount_46 rfl (lv_at hl 0 rfl) ?_
      refine va_get (D := G.1) (ci := 10) (v := .int (f0 9)) (C := RX10) (T := TX10) (N := 52) hx hb hts inlX10 hown hK hPD.1 0 rfl rfl 9 (by decide) (hts _ gw_551) (fun _ h9 => h9) rfl dX10_readsAmount_47 ?_
      obtain ⟨q_7, hq_7, h⟩ := ob2 h
      refine kVI (As := [.int 2, .int (f0 9)]) (rest := []) C0 (kt_X10_wrongAt l G h0 a0 f0 A0 2 (f0 9) hq_7) gi_V_X10_151_X10_wrongAt (n := 2) rfl (by decide +kernel) rfl ⟨rfl, rfl, Nat.le_of_ble_eq_true rfl, Nat.le_of_ble_eq_true rfl⟩ hPD hS 0 10 rfl rfl rfl [0, 1, 2, 3, 4, 5, 6, 7, 8, 9, 10, 11, 12, 13, 14, 15, 16, 17, 18, 19, 20, 21, 22, 23, 24, 25, 26, 27, 28, 29, 30, 31, 32, 33] [] [0, 1, 2, 3, 4, 5, 6, 7, 8, 9, 10, 11, 12, 13, 14, 15, 16, 17, 18, 19, 20, 21, 22, 23, 24, 25, 26, 27, 28, 29, 30, 31, 32, 33] (wr := ([] : va_W)) (wN := (wX10 G h0 a0 q_7.2 A0)) rfl rfl rfl rfl rfl hl.1 (Nat.le_of_ble_eq_true rfl) dX10_readsAmount_50 (fun H locs hPD hS => ?_)
      obtain ⟨hz, h⟩ := ob h
      obtain rfl := Option.some.inj h
      exact eZ C0 hPD.1 hPD.2 hS rfl (nbool (Classical.not_not.mp hz)) dX10_readsAmount_53
set_option maxRecDepth 100000 in
set_option maxHeartbeats 4000000 in
theorem ww_f10_readsAmount_l27  (C0 : Cx cX10_readsAmount 3 (some .boolean) RX10 p s m args meth c G DA) {h0 : Nat} {a0 : Nat → Nat} {A0 : Nat → Nat → Int32} {p1 : Int32}   {res : Int32 × (Nat → Int32)}  : ∀ (n : Nat) (f0 : Nat → Int32) (l2 : Int32), f10_readsAmount_l27 A0 p1  n f0 l2 = some res → ∀ (H : Heap) (locs : List Loc) (ls : Array Slot), WD G DA (wX10 G h0 a0 f0 A0) H → va_S DA s.heap H locs → lv_has ls 3 [(0, .ref h0), (1, .int p1), (2, .int l2)] → W p l e rmX10_readsAmount s m args below meth c H locs 0 0 (MQ below (QI G DA res.1 (wX10 G h0 a0 res.2 A0)) args s 0 0 DA) (F0 m 27 ls []) := by
  intro n
  induction n with
  | zero => intro f0 l2 h; cases h
  | succ n ih => intro f0 l2 h; exact ww_f10_readsAmount_b27 C0  ih f0 l2 h
set_option maxRecDepth 100000 in
set_option maxHeartbeats 4000000 in
theorem kt_X10_readsAmount (l : Launch) (G : Gp) (h0 : Nat) (a0 : Nat → Nat) (f0 : Nat → Int32) (A0 : Nat → Nat → Int32) (p1 : Int32) : ∀ {r : Int32 × (Nat → Int32)}, f10_readsAmount f0 A0 p1 = some r → CtrI l yX10_readsAmount cX10_readsAmount 3 (some .boolean) rmX10_readsAmount G [.ref h0, .int p1] (wX10 G h0 a0 f0 A0) r.1 (wX10 G h0 a0 r.2 A0) := by
  intro res h
  refine ctrI_of (cc := cX10_readsAmount) (maxL := 3) (ret := (some .boolean)) (by decide +kernel) rfl (Nat.le_of_ble_eq_true rfl) (fun p e s m below meth c DA C0 hP hD ls hl => ?_)
  have hPD : WD G DA (wX10 G h0 a0 f0 A0) s.heap := ⟨hP, hD⟩
  have hS : va_S DA s.heap s.heap [] := va_S.rf
  have hl : lv_has ls 3 [(0, .ref h0), (1, .int p1)] := hl
  obtain ⟨hx, hb, hml, hown, hts⟩ := C0.1
  have hK := C0.2.2.2.1
  unfold f10_readsAmount at h
  refine lv_aload_n hx hb dX10_readsAmount_0 rfl (lv_at hl 0 rfl) ?_
  refine va_get (D := G.1) (ci := 10) (v := .int (f0 9)) (C := RX10) (T := TX10) (N := 52) hx hb hts inlX10 hown hK hPD.1 0 rfl rfl 9 (by decide) (hts _ gw_551) (fun _ h9 => h9) rfl dX10_readsAmount_1 ?_
  refine lv_istore_n (lv' := [(2, .int (f0 9)), (0, .ref h0), (1, .int p1)]) hx hb dX10_readsAmount_4 rfl hl (by decide) rfl (fun ls hl => ?_)
  refine lv_aload_n hx hb dX10_readsAmount_5 rfl (lv_at hl 1 rfl) ?_
  obtain ⟨q_1, hq_1, h⟩ := ob2 h
  refine kVI (As := []) (rest := []) C0 (kt_X10_isDigit l G h0 a0 f0 A0 hq_1) gi_V_X10_157_X10_isDigit (n := 0) rfl (by decide +kernel) rfl ⟨rfl, rfl, Nat.le_of_ble_eq_true rfl, Nat.le_of_ble_eq_true rfl⟩ hPD hS 0 10 rfl rfl rfl [0, 1, 2, 3, 4, 5, 6, 7, 8, 9, 10, 11, 12, 13, 14, 15, 16, 17, 18, 19, 20, 21, 22, 23, 24, 25, 26, 27, 28, 29, 30, 31, 32, 33] [] [0, 1, 2, 3, 4, 5, 6, 7, 8, 9, 10, 11, 12, 13, 14, 15, 16, 17, 18, 19, 20, 21, 22, 23, 24, 25, 26, 27, 28, 29, 30, 31, 32, 33] (wr := ([] : va_W)) (wN := (wX10 G h0 a0 f0 A0)) rfl rfl rfl rfl rfl hl.1 (Nat.le_of_ble_eq_true rfl) dX10_readsAmount_6 (fun H locs hPD hS => ?_)
  refine lv_if_ne (tgt := 22) hx hb dX10_readsAmount_9 (by decide) (fun cc1 => ?_) (fun cc1 => ?_)
  · have h := (if_neg cc1).symm.trans h
    refine lv_aload_n hx hb dX10_readsAmount_22 rfl (lv_at hl 1 rfl) ?_
    refine lv_iconst (v := 0) hx hb dX10_readsAmount_23 (by decide) ?_
    refine va_put (D := G.1) (ci := 10) (v := .int 0) (ty := .int) (C := RX10) (T := TX10) (N := 52) hx hb hts inlX10 tyX10 tyX10_ok nmX10 hown hK hPD.1 hPD.2 hS 0 rfl rfl 12 (by decide) (hts _ gw_562) (fun _ h9 => h9) rfl (by decide +kernel) rfl rfl (Nat.le_of_ble_eq_true rfl) dX10_readsAmount_24 (fun H locs hP hD hS => ?_)
    obtain ⟨f0_2, ef0_2, h⟩ := lvl h
    have hPD : WD G DA (wX10 G h0 a0 f0_2 A0) H := by rw [ef0_2]; exact ⟨hP, hD⟩
    clear ef0_2 hP hD
    exact ww_f10_readsAmount_l27 C0 NF f0_2 (f0 9) h _ _ _ hPD hS (lv_sub hl [1, 2, 0] rfl)
  · have h := (if_pos cc1).symm.trans h
    refine lv_aload_n hx hb dX10_readsAmount_12 rfl (lv_at hl 1 rfl) ?_
    refine lv_iconst (v := 1) hx hb dX10_readsAmount_13 (by decide) ?_
    refine lv_aload_n hx hb dX10_readsAmount_14 rfl (lv_at hl 1 rfl) ?_
    refine va_get (D := G.1) (ci := 10) (v := .int (f0 9)) (C := RX10) (T := TX10) (N := 52) hx hb hts inlX10 hown hK hPD.1 0 rfl rfl 9 (by decide) (hts _ gw_551) (fun _ h9 => h9) rfl dX10_readsAmount_15 ?_
    obtain ⟨q_8, hq_8, h⟩ := ob2 h
    refine kVI (As := [.int 1, .int (f0 9)]) (rest := []) C0 (kt_X10_wrongAt l G h0 a0 f0 A0 1 (f0 9) hq_8) gi_V_X10_151_X10_wrongAt (n := 2) rfl (by decide +kernel) rfl ⟨rfl, rfl, Nat.le_of_ble_eq_true rfl, Nat.le_of_ble_eq_true rfl⟩ hPD hS 0 10 rfl rfl rfl [0, 1, 2, 3, 4, 5, 6, 7, 8, 9, 10, 11, 12, 13, 14, 15, 16, 17, 18, 19, 20, 21, 22, 23, 24, 25, 26, 27, 28, 29, 30, 31, 32, 33] [] [0, 1, 2, 3, 4, 5, 6, 7, 8, 9, 10, 11, 12, 13, 14, 15, 16, 17, 18, 19, 20, 21, 22, 23, 24, 25, 26, 27, 28, 29, 30, 31, 32, 33] (wr := ([] : va_W)) (wN := (wX10 G h0 a0 q_8.2 A0)) rfl rfl rfl rfl rfl hl.1 (Nat.le_of_ble_eq_true rfl) dX10_readsAmount_18 (fun H locs hPD hS => ?_)
    obtain ⟨hz, h⟩ := ob h
    obtain rfl := Option.some.inj h
    exact eZ C0 hPD.1 hPD.2 hS rfl (nbool (Classical.not_not.mp hz)) dX10_readsAmount_21
abbrev rmX10_readsOther : Room := { frames := 2, cells := 0, slots := 0, locals := 43 }
set_option maxRecDepth 100000 in
set_option maxHeartbeats 4000000 in
theorem ww_f10_readsOther_b104  (C0 : Cx cX10_readsOther 4 (some .boolean) RX10 p s m args meth c G DA) {h0 : Nat} {a0 : Nat → Nat} {p1 : Int32} {p2 : Int32}   {res : Int32 × (Nat → Nat → Int32) × (Nat → Int32)}  : ∀ (A0 : Nat → Nat → Int32) (f0 : Nat → Int32) (l3 : Int32) (s0 : Int32) (s1 : Int32), f10_readsOther_b104 p1 p2  A0 f0 l3 s0 s1 = some res → ∀ (H : Heap) (locs : List Loc) (ls : Array Slot), WD G DA (wX10 G h0 a0 f0 A0) H → va_S DA s.heap H locs → lv_has ls 4 [(0, .ref h0), (1, .int p1), (2, .int p2), (3, .int l3)] → W p l e rmX10_readsOther s m args below meth c H locs 0 0 (MQ below (QI G DA res.1 (wX10 G h0 a0 res.2.2 res.2.1)) args s 0 0 DA) (F0 m 104 ls [.int s0, .int s1, .ref (a0 3)]) := by
  obtain ⟨hx, hb, hml, hown, hts⟩ := C0.1
  have hK := C0.2.2.2.1
  intro A0 f0 l3 s0 s1 h _ _ _ hPD hS hl
  unfold f10_readsOther_b104 at h
  obtain ⟨hi_5, h⟩ := ob h
  refine va_iast hx hb hK hPD.1 hPD.2 hS 4 1 rfl rfl hi_5 dX10_readsOther_104 (fun H locs hP hD hS => ?_)
  obtain ⟨A0_6, eA0_6, h⟩ := lvl h
  have hPD : WD G DA (wX10 G h0 a0 f0 A0_6) H := by rw [eA0_6]; exact ⟨hP, hD⟩
  clear eA0_6 hP hD
  refine lv_aload_n hx hb dX10_readsOther_105 rfl (lv_at hl 0 rfl) ?_
  refine va_get (D := G.1) (ci := 10) (v := .ref (a0 3)) (C := RX10) (T := TX10) (N := 52) hx hb hts inlX10 hown hK hPD.1 0 rfl rfl 3 (by decide) (hts _ gw_663) (fun _ h9 => h9) rfl dX10_readsOther_106 ?_
  refine lv_iload_n hx hb dX10_readsOther_109 rfl (lv_at hl 3 rfl) ?_
  refine lv_iload_n hx hb dX10_readsOther_110 rfl (lv_at hl 2 rfl) ?_
  refine lv_if_eq (tgt := 127) hx hb dX10_readsOther_111 (by decide) (fun cc1 => ?_) (fun cc1 => ?_)
  · have h := (if_pos cc1).symm.trans h
    refine lv_aload_n hx hb dX10_readsOther_127 rfl (lv_at hl 0 rfl) ?_
    refine va_get (D := G.1) (ci := 10) (v := .ref (a0 3)) (C := RX10) (T := TX10) (N := 52) hx hb hts inlX10 hown hK hPD.1 0 rfl rfl 3 (by decide) (hts _ gw_663) (fun _ h9 => h9) rfl dX10_readsOther_128 ?_
    refine lv_iload_n hx hb dX10_readsOther_131 rfl (lv_at hl 3 rfl) ?_
    obtain ⟨hi_7, h⟩ := ob h
    refine va_iald hx hb hK hPD.1 4 1 rfl rfl hi_7 dX10_readsOther_132 ?_
    refine lv_iconst (v := 1) hx hb dX10_readsOther_133 (by decide) ?_
    refine lv_iload_n hx hb dX10_readsOther_134 rfl (lv_at hl 1 rfl) ?_
    refine lv_ishl hx hb dX10_readsOther_135 ?_
    refine lv_iconst (v := (-1)) hx hb dX10_readsOther_136 (by decide) ?_
    refine lv_ixor hx hb dX10_readsOther_137 ?_
    refine lv_iand hx hb dX10_readsOther_138 ?_
    obtain ⟨hi_8, h⟩ := ob h
    refine va_iast hx hb hK hPD.1 hPD.2 hS 4 1 rfl rfl hi_8 dX10_readsOther_139 (fun H locs hP hD hS => ?_)
    obtain ⟨A0_9, eA0_9, h⟩ := lvl h
    have hPD : WD G DA (wX10 G h0 a0 f0 A0_9) H := by rw [eA0_9]; exact ⟨hP, hD⟩
    clear eA0_9 hP hD
    refine lv_iconst (v := 1) hx hb dX10_readsOther_140 (by decide) ?_
    obtain rfl := Option.some.inj h
    exact eZ C0 hPD.1 hPD.2 hS rfl rfl dX10_readsOther_141
  · have h := (if_neg cc1).symm.trans h
    refine lv_aload_n hx hb dX10_readsOther_114 rfl (lv_at hl 0 rfl) ?_
    refine va_get (D := G.1) (ci := 10) (v := .ref (a0 3)) (C := RX10) (T := TX10) (N := 52) hx hb hts inlX10 hown hK hPD.1 0 rfl rfl 3 (by decide) (hts _ gw_663) (fun _ h9 => h9) rfl dX10_readsOther_115 ?_
    refine lv_iload_n hx hb dX10_readsOther_118 rfl (lv_at hl 3 rfl) ?_
    obtain ⟨hi_10, h⟩ := ob h
    refine va_iald hx hb hK hPD.1 4 1 rfl rfl hi_10 dX10_readsOther_119 ?_
    refine lv_iconst (v := 1) hx hb dX10_readsOther_120 (by decide) ?_
    refine lv_iload_n hx hb dX10_readsOther_121 rfl (lv_at hl 1 rfl) ?_
    refine lv_ishl hx hb dX10_readsOther_122 ?_
    refine lv_ior hx hb dX10_readsOther_123 ?_
    refine lv_goto (tgt := 139) hx hb dX10_readsOther_124 (by decide) ?_
    obtain ⟨hi_11, h⟩ := ob h
    refine va_iast hx hb hK hPD.1 hPD.2 hS 4 1 rfl rfl hi_11 dX10_readsOther_139 (fun H locs hP hD hS => ?_)
    obtain ⟨A0_12, eA0_12, h⟩ := lvl h
    have hPD : WD G DA (wX10 G h0 a0 f0 A0_12) H := by rw [eA0_12]; exact ⟨hP, hD⟩
    clear eA0_12 hP hD
    refine lv_iconst (v := 1) hx hb dX10_readsOther_140 (by decide) ?_
    obtain rfl := Option.some.inj h
    exact eZ C0 hPD.1 hPD.2 hS rfl rfl dX10_readsOther_141
set_option maxRecDepth 100000 in
set_option maxHeartbeats 4000000 in
theorem kt_X10_readsOther (l : Launch) (G : Gp) (h0 : Nat) (a0 : Nat → Nat) (f0 : Nat → Int32) (A0 : Nat → Nat → Int32) (p1 : Int32) (p2 : Int32) : ∀ {r : Int32 × (Nat → Nat → Int32) × (Nat → Int32)}, f10_readsOther f0 A0 p1 p2 = some r → CtrI l yX10_readsOther cX10_readsOther 4 (some .boolean) rmX10_readsOther G [.ref h0, .int p1, .int p2] (wX10 G h0 a0 f0 A0) r.1 (wX10 G h0 a0 r.2.2 r.2.1) := by
  intro res h
  refine ctrI_of (cc := cX10_readsOther) (maxL := 4) (ret := (some .boolean)) (by decide +kernel) rfl (Nat.le_of_ble_eq_true rfl) (fun p e s m below meth c DA C0 hP hD ls hl => ?_)
  have hPD : WD G DA (wX10 G h0 a0 f0 A0) s.heap := ⟨hP, hD⟩
  have hS : va_S DA s.heap s.heap [] := va_S.rf
  have hl : lv_has ls 4 [(0, .ref h0), (1, .int p1), (2, .int p2)] := hl
  obtain ⟨hx, hb, hml, hown, hts⟩ := C0.1
  have hK := C0.2.2.2.1
  unfold f10_readsOther at h
  refine lv_aload_n hx hb dX10_readsOther_0 rfl (lv_at hl 0 rfl) ?_
  obtain ⟨q_1, hq_1, h⟩ := ob2 h
  refine kVI (As := []) (rest := []) C0 (kt_X10_isLetter l G h0 a0 f0 A0 hq_1) gi_V_X10_271_X10_isLetter (n := 0) rfl (by decide +kernel) rfl ⟨rfl, rfl, Nat.le_of_ble_eq_true rfl, Nat.le_of_ble_eq_true rfl⟩ hPD hS 0 10 rfl rfl rfl [0, 1, 2, 3, 4, 5, 6, 7, 8, 9, 10, 11, 12, 13, 14, 15, 16, 17, 18, 19, 20, 21, 22, 23, 24, 25, 26, 27, 28, 29, 30, 31, 32, 33] [] [0, 1, 2, 3, 4, 5, 6, 7, 8, 9, 10, 11, 12, 13, 14, 15, 16, 17, 18, 19, 20, 21, 22, 23, 24, 25, 26, 27, 28, 29, 30, 31, 32, 33] (wr := ([] : va_W)) (wN := (wX10 G h0 a0 f0 A0)) rfl rfl rfl rfl rfl hl.1 (Nat.le_of_ble_eq_true rfl) dX10_readsOther_1 (fun H locs hPD hS => ?_)
  refine lv_if_ne (tgt := 17) hx hb dX10_readsOther_4 (by decide) (fun cc1 => ?_) (fun cc1 => ?_)
  · have h := (if_neg cc1).symm.trans h
    refine lv_aload_n hx hb dX10_readsOther_17 rfl (lv_at hl 0 rfl) ?_
    obtain ⟨q_2, hq_2, h⟩ := ob2 h
    refine kVI (As := []) (rest := []) C0 (kt_X10_here l G h0 a0 f0 A0 hq_2) gi_V_X10_144_X10_here (n := 0) rfl (by decide +kernel) rfl ⟨rfl, rfl, Nat.le_of_ble_eq_true rfl, Nat.le_of_ble_eq_true rfl⟩ hPD hS 0 10 rfl rfl rfl [0, 1, 2, 3, 4, 5, 6, 7, 8, 9, 10, 11, 12, 13, 14, 15, 16, 17, 18, 19, 20, 21, 22, 23, 24, 25, 26, 27, 28, 29, 30, 31, 32, 33] [] [0, 1, 2, 3, 4, 5, 6, 7, 8, 9, 10, 11, 12, 13, 14, 15, 16, 17, 18, 19, 20, 21, 22, 23, 24, 25, 26, 27, 28, 29, 30, 31, 32, 33] (wr := ([] : va_W)) (wN := (wX10 G h0 a0 f0 A0)) rfl rfl rfl rfl rfl hl.1 (Nat.le_of_ble_eq_true rfl) dX10_readsOther_18 (fun H locs hPD hS => ?_)
    refine lv_bipush (v := 97) hx hb dX10_readsOther_21 (by decide) ?_
    refine lv_isub hx hb dX10_readsOther_23 ?_
    refine lv_istore_n (lv' := [(3, .int (q_2 - 97)), (0, .ref h0), (1, .int p1), (2, .int p2)]) hx hb dX10_readsOther_24 rfl hl (by decide) rfl (fun ls hl => ?_)
    refine lv_iload_n hx hb dX10_readsOther_25 rfl (lv_at hl 0 rfl) ?_
    refine lv_iload_n hx hb dX10_readsOther_26 rfl (lv_at hl 2 rfl) ?_
    refine lv_icmp_ne (tgt := 41) hx hb dX10_readsOther_27 (by decide) (fun cc1 => ?_) (fun cc1 => ?_)
    · have h := (if_neg cc1).symm.trans h
      refine lv_aload_n hx hb dX10_readsOther_41 rfl (lv_at hl 1 rfl) ?_
      refine lv_iload_n hx hb dX10_readsOther_42 rfl (lv_at hl 0 rfl) ?_
      refine kVI (As := [.int (q_2 - 97)]) (rest := []) C0 (kt_X10_isTold l G h0 a0 f0 A0 (q_2 - 97)) gi_V_X10_128_X10_isTold (n := 1) rfl (by decide +kernel) rfl ⟨rfl, rfl, Nat.le_of_ble_eq_true rfl, Nat.le_of_ble_eq_true rfl⟩ hPD hS 0 10 rfl rfl rfl [0, 1, 2, 3, 4, 5, 6, 7, 8, 9, 10, 11, 12, 13, 14, 15, 16, 17, 18, 19, 20, 21, 22, 23, 24, 25, 26, 27, 28, 29, 30, 31, 32, 33] [] [0, 1, 2, 3, 4, 5, 6, 7, 8, 9, 10, 11, 12, 13, 14, 15, 16, 17, 18, 19, 20, 21, 22, 23, 24, 25, 26, 27, 28, 29, 30, 31, 32, 33] (wr := ([] : va_W)) (wN := (wX10 G h0 a0 f0 A0)) rfl rfl rfl rfl rfl hl.1 (Nat.le_of_ble_eq_true rfl) dX10_readsOther_43 (fun H locs hPD hS => ?_)
      refine lv_if_ne (tgt := 60) hx hb dX10_readsOther_46 (by decide) (fun cc1 => ?_) (fun cc1 => ?_)
      · have h := (if_neg cc1).symm.trans h
        refine lv_aload_n hx hb dX10_readsOther_60 rfl (lv_at hl 1 rfl) ?_
        refine lv_aload_n hx hb dX10_readsOther_61 rfl (lv_at hl 1 rfl) ?_
        refine va_get (D := G.1) (ci := 10) (v := .int (f0 9)) (C := RX10) (T := TX10) (N := 52) hx hb hts inlX10 hown hK hPD.1 0 rfl rfl 9 (by decide) (hts _ gw_551) (fun _ h9 => h9) rfl dX10_readsOther_62 ?_
        refine lv_iconst (v := 1) hx hb dX10_readsOther_65 (by decide) ?_
        refine lv_iadd hx hb dX10_readsOther_66 ?_
        refine va_put (D := G.1) (ci := 10) (v := .int ((f0 9) + 1)) (ty := .int) (C := RX10) (T := TX10) (N := 52) hx hb hts inlX10 tyX10 tyX10_ok nmX10 hown hK hPD.1 hPD.2 hS 0 rfl rfl 9 (by decide) (hts _ gw_551) (fun _ h9 => h9) rfl (by decide +kernel) rfl rfl (Nat.le_of_ble_eq_true rfl) dX10_readsOther_67 (fun H locs hP hD hS => ?_)
        obtain ⟨f0_3, ef0_3, h⟩ := lvl h
        have hPD : WD G DA (wX10 G h0 a0 f0_3 A0) H := by rw [ef0_3]; exact ⟨hP, hD⟩
        clear ef0_3 hP hD
        refine lv_aload_n hx hb dX10_readsOther_70 rfl (lv_at hl 1 rfl) ?_
        refine va_get (D := G.1) (ci := 10) (v := .ref (a0 3)) (C := RX10) (T := TX10) (N := 52) hx hb hts inlX10 hown hK hPD.1 0 rfl rfl 3 (by decide) (hts _ gw_663) (fun _ h9 => h9) rfl dX10_readsOther_71 ?_
        refine lv_iload_n hx hb dX10_readsOther_74 rfl (lv_at hl 2 rfl) ?_
        refine lv_iload_n hx hb dX10_readsOther_75 rfl (lv_at hl 3 rfl) ?_
        refine lv_if_eq (tgt := 92) hx hb dX10_readsOther_76 (by decide) (fun cc1 => ?_) (fun cc1 => ?_)
        · have h := (if_pos cc1).symm.trans h
          refine lv_aload_n hx hb dX10_readsOther_92 rfl (lv_at hl 1 rfl) ?_
          refine va_get (D := G.1) (ci := 10) (v := .ref (a0 3)) (C := RX10) (T := TX10) (N := 52) hx hb hts inlX10 hown hK hPD.1 0 rfl rfl 3 (by decide) (hts _ gw_663) (fun _ h9 => h9) rfl dX10_readsOther_93 ?_
          refine lv_iload_n hx hb dX10_readsOther_96 rfl (lv_at hl 2 rfl) ?_
          obtain ⟨hi_4, h⟩ := ob h
          refine va_iald hx hb hK hPD.1 4 1 rfl rfl hi_4 dX10_readsOther_97 ?_
          refine lv_iconst (v := 1) hx hb dX10_readsOther_98 (by decide) ?_
          refine lv_iload_n hx hb dX10_readsOther_99 rfl (lv_at hl 0 rfl) ?_
          refine lv_ishl hx hb dX10_readsOther_100 ?_
          refine lv_iconst (v := (-1)) hx hb dX10_readsOther_101 (by decide) ?_
          refine lv_ixor hx hb dX10_readsOther_102 ?_
          refine lv_iand hx hb dX10_readsOther_103 ?_
          exact ww_f10_readsOther_b104 C0 A0 f0_3 (q_2 - 97) ((gx (A0 3) p1) &&& ((shl 1 (q_2 - 97)) ^^^ (-1))) p1 h _ _ _ hPD hS (lv_sub hl [1, 2, 3, 0] rfl)
        · have h := (if_neg cc1).symm.trans h
          refine lv_aload_n hx hb dX10_readsOther_79 rfl (lv_at hl 1 rfl) ?_
          refine va_get (D := G.1) (ci := 10) (v := .ref (a0 3)) (C := RX10) (T := TX10) (N := 52) hx hb hts inlX10 hown hK hPD.1 0 rfl rfl 3 (by decide) (hts _ gw_663) (fun _ h9 => h9) rfl dX10_readsOther_80 ?_
          refine lv_iload_n hx hb dX10_readsOther_83 rfl (lv_at hl 2 rfl) ?_
          obtain ⟨hi_13, h⟩ := ob h
          refine va_iald hx hb hK hPD.1 4 1 rfl rfl hi_13 dX10_readsOther_84 ?_
          refine lv_iconst (v := 1) hx hb dX10_readsOther_85 (by decide) ?_
          refine lv_iload_n hx hb dX10_readsOther_86 rfl (lv_at hl 0 rfl) ?_
          refine lv_ishl hx hb dX10_readsOther_87 ?_
          refine lv_ior hx hb dX10_readsOther_88 ?_
          refine lv_goto (tgt := 104) hx hb dX10_readsOther_89 (by decide) ?_
          exact ww_f10_readsOther_b104 C0 A0 f0_3 (q_2 - 97) ((gx (A0 3) p1) ||| (shl 1 (q_2 - 97))) p1 h _ _ _ hPD hS (lv_sub hl [1, 2, 3, 0] rfl)
      · have h := (if_pos cc1).symm.trans h
        refine lv_aload_n hx hb dX10_readsOther_49 rfl (lv_at hl 1 rfl) ?_
        refine lv_bipush (v := 7) hx hb dX10_readsOther_50 (by decide) ?_
        refine lv_aload_n hx hb dX10_readsOther_52 rfl (lv_at hl 1 rfl) ?_
        refine va_get (D := G.1) (ci := 10) (v := .int (f0 9)) (C := RX10) (T := TX10) (N := 52) hx hb hts inlX10 hown hK hPD.1 0 rfl rfl 9 (by decide) (hts _ gw_551) (fun _ h9 => h9) rfl dX10_readsOther_53 ?_
        obtain ⟨q_14, hq_14, h⟩ := ob2 h
        refine kVI (As := [.int 7, .int (f0 9)]) (rest := []) C0 (kt_X10_wrongAt l G h0 a0 f0 A0 7 (f0 9) hq_14) gi_V_X10_151_X10_wrongAt (n := 2) rfl (by decide +kernel) rfl ⟨rfl, rfl, Nat.le_of_ble_eq_true rfl, Nat.le_of_ble_eq_true rfl⟩ hPD hS 0 10 rfl rfl rfl [0, 1, 2, 3, 4, 5, 6, 7, 8, 9, 10, 11, 12, 13, 14, 15, 16, 17, 18, 19, 20, 21, 22, 23, 24, 25, 26, 27, 28, 29, 30, 31, 32, 33] [] [0, 1, 2, 3, 4, 5, 6, 7, 8, 9, 10, 11, 12, 13, 14, 15, 16, 17, 18, 19, 20, 21, 22, 23, 24, 25, 26, 27, 28, 29, 30, 31, 32, 33] (wr := ([] : va_W)) (wN := (wX10 G h0 a0 q_14.2 A0)) rfl rfl rfl rfl rfl hl.1 (Nat.le_of_ble_eq_true rfl) dX10_readsOther_56 (fun H locs hPD hS => ?_)
        obtain ⟨hz, h⟩ := ob h
        obtain rfl := Option.some.inj h
        exact eZ C0 hPD.1 hPD.2 hS rfl (nbool (Classical.not_not.mp hz)) dX10_readsOther_59
    · have h := (if_pos cc1).symm.trans h
      refine lv_aload_n hx hb dX10_readsOther_30 rfl (lv_at hl 1 rfl) ?_
      refine lv_bipush (v := 6) hx hb dX10_readsOther_31 (by decide) ?_
      refine lv_aload_n hx hb dX10_readsOther_33 rfl (lv_at hl 1 rfl) ?_
      refine va_get (D := G.1) (ci := 10) (v := .int (f0 9)) (C := RX10) (T := TX10) (N := 52) hx hb hts inlX10 hown hK hPD.1 0 rfl rfl 9 (by decide) (hts _ gw_551) (fun _ h9 => h9) rfl dX10_readsOther_34 ?_
      obtain ⟨q_15, hq_15, h⟩ := ob2 h
      refine kVI (As := [.int 6, .int (f0 9)]) (rest := []) C0 (kt_X10_wrongAt l G h0 a0 f0 A0 6 (f0 9) hq_15) gi_V_X10_151_X10_wrongAt (n := 2) rfl (by decide +kernel) rfl ⟨rfl, rfl, Nat.le_of_ble_eq_true rfl, Nat.le_of_ble_eq_true rfl⟩ hPD hS 0 10 rfl rfl rfl [0, 1, 2, 3, 4, 5, 6, 7, 8, 9, 10, 11, 12, 13, 14, 15, 16, 17, 18, 19, 20, 21, 22, 23, 24, 25, 26, 27, 28, 29, 30, 31, 32, 33] [] [0, 1, 2, 3, 4, 5, 6, 7, 8, 9, 10, 11, 12, 13, 14, 15, 16, 17, 18, 19, 20, 21, 22, 23, 24, 25, 26, 27, 28, 29, 30, 31, 32, 33] (wr := ([] : va_W)) (wN := (wX10 G h0 a0 q_15.2 A0)) rfl rfl rfl rfl rfl hl.1 (Nat.le_of_ble_eq_true rfl) dX10_readsOther_37 (fun H locs hPD hS => ?_)
      obtain ⟨hz, h⟩ := ob h
      obtain rfl := Option.some.inj h
      exact eZ C0 hPD.1 hPD.2 hS rfl (nbool (Classical.not_not.mp hz)) dX10_readsOther_40
  · have h := (if_pos cc1).symm.trans h
    refine lv_aload_n hx hb dX10_readsOther_7 rfl (lv_at hl 0 rfl) ?_
    refine lv_iconst (v := 1) hx hb dX10_readsOther_8 (by decide) ?_
    refine lv_aload_n hx hb dX10_readsOther_9 rfl (lv_at hl 0 rfl) ?_
    refine va_get (D := G.1) (ci := 10) (v := .int (f0 9)) (C := RX10) (T := TX10) (N := 52) hx hb hts inlX10 hown hK hPD.1 0 rfl rfl 9 (by decide) (hts _ gw_551) (fun _ h9 => h9) rfl dX10_readsOther_10 ?_
    obtain ⟨q_16, hq_16, h⟩ := ob2 h
    refine kVI (As := [.int 1, .int (f0 9)]) (rest := []) C0 (kt_X10_wrongAt l G h0 a0 f0 A0 1 (f0 9) hq_16) gi_V_X10_151_X10_wrongAt (n := 2) rfl (by decide +kernel) rfl ⟨rfl, rfl, Nat.le_of_ble_eq_true rfl, Nat.le_of_ble_eq_true rfl⟩ hPD hS 0 10 rfl rfl rfl [0, 1, 2, 3, 4, 5, 6, 7, 8, 9, 10, 11, 12, 13, 14, 15, 16, 17, 18, 19, 20, 21, 22, 23, 24, 25, 26, 27, 28, 29, 30, 31, 32, 33] [] [0, 1, 2, 3, 4, 5, 6, 7, 8, 9, 10, 11, 12, 13, 14, 15, 16, 17, 18, 19, 20, 21, 22, 23, 24, 25, 26, 27, 28, 29, 30, 31, 32, 33] (wr := ([] : va_W)) (wN := (wX10 G h0 a0 q_16.2 A0)) rfl rfl rfl rfl rfl hl.1 (Nat.le_of_ble_eq_true rfl) dX10_readsOther_13 (fun H locs hPD hS => ?_)
    obtain ⟨hz, h⟩ := ob h
    obtain rfl := Option.some.inj h
    exact eZ C0 hPD.1 hPD.2 hS rfl (nbool (Classical.not_not.mp hz)) dX10_readsOther_16
abbrev rmX10_readsLine : Room := { frames := 3, cells := 0, slots := 0, locals := 66 }
set_option maxRecDepth 100000 in
set_option maxHeartbeats 4000000 in
theorem ww_f10_readsLine_b150  (C0 : Cx cX10_readsLine 3 (some .boolean) RX10 p s m args meth c G DA) {h0 : Nat} {a0 : Nat → Nat}   {res : Int32 × (Nat → Nat → Int32) × (Nat → Int32)}  : ∀ (A0 : Nat → Nat → Int32) (f0 : Nat → Int32) (l1 : Int32) (l2 : Int32), f10_readsLine_b150   A0 f0 l1 l2 = some res → ∀ (H : Heap) (locs : List Loc) (ls : Array Slot), WD G DA (wX10 G h0 a0 f0 A0) H → va_S DA s.heap H locs → lv_has ls 3 [(0, .ref h0), (1, .int l1), (2, .int l2)] → W p l e rmX10_readsLine s m args below meth c H locs 0 0 (MQ below (QI G DA res.1 (wX10 G h0 a0 res.2.2 res.2.1)) args s 0 0 DA) (F0 m 150 ls []) := by
  obtain ⟨hx, hb, hml, hown, hts⟩ := C0.1
  have hK := C0.2.2.2.1
  intro A0 f0 l1 l2 h _ _ _ hPD hS hl
  unfold f10_readsLine_b150 at h
  refine lv_aload_n hx hb dX10_readsLine_150 rfl (lv_at hl 0 rfl) ?_
  refine lv_iload_n hx hb dX10_readsLine_151 rfl (lv_at hl 1 rfl) ?_
  refine lv_iload_n hx hb dX10_readsLine_152 rfl (lv_at hl 2 rfl) ?_
  refine lv_bipush (v := 38) hx hb dX10_readsLine_153 (by decide) ?_
  refine lv_icmp_ne (tgt := 162) hx hb dX10_readsLine_155 (by decide) (fun cc1 => ?_) (fun cc1 => ?_)
  · have h := (if_neg cc1).symm.trans h
    refine lv_iconst (v := 0) hx hb dX10_readsLine_162 (by decide) ?_
    obtain ⟨q_7, hq_7, h⟩ := ob2 h
    refine kVI (As := [.int l1, .int 0]) (rest := []) C0 (kt_X10_readsOther l G h0 a0 f0 A0 l1 0 hq_7) gi_V_X10_277_X10_readsOther (n := 2) rfl (by decide +kernel) rfl ⟨rfl, rfl, Nat.le_of_ble_eq_true rfl, Nat.le_of_ble_eq_true rfl⟩ hPD hS 0 10 rfl rfl rfl [0, 1, 2, 3, 4, 5, 6, 7, 8, 9, 10, 11, 12, 13, 14, 15, 16, 17, 18, 19, 20, 21, 22, 23, 24, 25, 26, 27, 28, 29, 30, 31, 32, 33] [] [0, 1, 2, 3, 4, 5, 6, 7, 8, 9, 10, 11, 12, 13, 14, 15, 16, 17, 18, 19, 20, 21, 22, 23, 24, 25, 26, 27, 28, 29, 30, 31, 32, 33] (wr := ([] : va_W)) (wN := (wX10 G h0 a0 q_7.2.2 q_7.2.1)) rfl rfl rfl rfl rfl hl.1 (Nat.le_of_ble_eq_true rfl) dX10_readsLine_163 (fun H locs hPD hS => ?_)
    obtain ⟨hz, h⟩ := ob h
    obtain rfl := Option.some.inj h
    exact eZ C0 hPD.1 hPD.2 hS rfl (nbool (Classical.not_not.mp hz)) dX10_readsLine_166
  · have h := (if_pos cc1).symm.trans h
    refine lv_iconst (v := 1) hx hb dX10_readsLine_158 (by decide) ?_
    refine lv_goto (tgt := 163) hx hb dX10_readsLine_159 (by decide) ?_
    obtain ⟨q_8, hq_8, h⟩ := ob2 h
    refine kVI (As := [.int l1, .int 1]) (rest := []) C0 (kt_X10_readsOther l G h0 a0 f0 A0 l1 1 hq_8) gi_V_X10_277_X10_readsOther (n := 2) rfl (by decide +kernel) rfl ⟨rfl, rfl, Nat.le_of_ble_eq_true rfl, Nat.le_of_ble_eq_true rfl⟩ hPD hS 0 10 rfl rfl rfl [0, 1, 2, 3, 4, 5, 6, 7, 8, 9, 10, 11, 12, 13, 14, 15, 16, 17, 18, 19, 20, 21, 22, 23, 24, 25, 26, 27, 28, 29, 30, 31, 32, 33] [] [0, 1, 2, 3, 4, 5, 6, 7, 8, 9, 10, 11, 12, 13, 14, 15, 16, 17, 18, 19, 20, 21, 22, 23, 24, 25, 26, 27, 28, 29, 30, 31, 32, 33] (wr := ([] : va_W)) (wN := (wX10 G h0 a0 q_8.2.2 q_8.2.1)) rfl rfl rfl rfl rfl hl.1 (Nat.le_of_ble_eq_true rfl) dX10_readsLine_163 (fun H locs hPD hS => ?_)
    obtain ⟨hz, h⟩ := ob h
    obtain rfl := Option.some.inj h
    exact eZ C0 hPD.1 hPD.2 hS rfl (nbool (Classical.not_not.mp hz)) dX10_readsLine_166
set_option maxRecDepth 100000 in
set_option maxHeartbeats 4000000 in
theorem ww_f10_readsLine_b245  (C0 : Cx cX10_readsLine 3 (some .boolean) RX10 p s m args meth c G DA) {h0 : Nat} {a0 : Nat → Nat}   {res : Int32 × (Nat → Nat → Int32) × (Nat → Int32)}  : ∀ (A0 : Nat → Nat → Int32) (f0 : Nat → Int32) (s0 : Int32) (s1 : Int32) (s2 : Int32) (s3 : Int32) (s4 : Int32), f10_readsLine_b245   A0 f0 s0 s1 s2 s3 s4 = some res → ∀ (H : Heap) (locs : List Loc) (ls : Array Slot), WD G DA (wX10 G h0 a0 f0 A0) H → va_S DA s.heap H locs → lv_has ls 3 [(0, .ref h0)] → W p l e rmX10_readsLine s m args below meth c H locs 0 0 (MQ below (QI G DA res.1 (wX10 G h0 a0 res.2.2 res.2.1)) args s 0 0 DA) (F0 m 245 ls [.int s0, .int s1, .int s2, .int s3, .int s4, .ref (a0 0)]) := by
  obtain ⟨hx, hb, hml, hown, hts⟩ := C0.1
  have hK := C0.2.2.2.1
  intro A0 f0 s0 s1 s2 s3 s4 h _ _ _ hPD hS hl
  unfold f10_readsLine_b245 at h
  refine lv_iadd hx hb dX10_readsLine_245 ?_
  refine kSI (As := [.int s2, .int (s1 + s0)]) (rest := [.int s3, .int s4, .ref (a0 0)]) C0 (kt_X10_min l G  s2 (s1 + s0)) gi_S_X10_284_X10_min (n := 2) rfl (by decide +kernel) ⟨rfl, rfl, Nat.le_of_ble_eq_true rfl, Nat.le_of_ble_eq_true rfl⟩ hPD hS [] [0, 1, 2, 3, 4, 5, 6, 7, 8, 9, 10, 11, 12, 13, 14, 15, 16, 17, 18, 19, 20, 21, 22, 23, 24, 25, 26, 27, 28, 29, 30, 31, 32, 33] [0, 1, 2, 3, 4, 5, 6, 7, 8, 9, 10, 11, 12, 13, 14, 15, 16, 17, 18, 19, 20, 21, 22, 23, 24, 25, 26, 27, 28, 29, 30, 31, 32, 33] (wr := (wX10 G h0 a0 f0 A0)) (wN := (wX10 G h0 a0 f0 A0)) rfl rfl rfl rfl rfl hl.1 (Nat.le_of_ble_eq_true rfl) dX10_readsLine_246 (fun H locs hPD hS => ?_)
  refine kSI (As := [.int s3, .int (f10_min s2 (s1 + s0))]) (rest := [.int s4, .ref (a0 0)]) C0 (kt_X10_max l G  s3 (f10_min s2 (s1 + s0))) gi_S_X10_287_X10_max (n := 2) rfl (by decide +kernel) ⟨rfl, rfl, Nat.le_of_ble_eq_true rfl, Nat.le_of_ble_eq_true rfl⟩ hPD hS [] [0, 1, 2, 3, 4, 5, 6, 7, 8, 9, 10, 11, 12, 13, 14, 15, 16, 17, 18, 19, 20, 21, 22, 23, 24, 25, 26, 27, 28, 29, 30, 31, 32, 33] [0, 1, 2, 3, 4, 5, 6, 7, 8, 9, 10, 11, 12, 13, 14, 15, 16, 17, 18, 19, 20, 21, 22, 23, 24, 25, 26, 27, 28, 29, 30, 31, 32, 33] (wr := (wX10 G h0 a0 f0 A0)) (wN := (wX10 G h0 a0 f0 A0)) rfl rfl rfl rfl rfl hl.1 (Nat.le_of_ble_eq_true rfl) dX10_readsLine_249 (fun H locs hPD hS => ?_)
  obtain ⟨hi_11, h⟩ := ob h
  refine va_iast hx hb hK hPD.1 hPD.2 hS 1 1 rfl rfl hi_11 dX10_readsLine_252 (fun H locs hP hD hS => ?_)
  obtain ⟨A0_12, eA0_12, h⟩ := lvl h
  have hPD : WD G DA (wX10 G h0 a0 f0 A0_12) H := by rw [eA0_12]; exact ⟨hP, hD⟩
  clear eA0_12 hP hD
  refine lv_iconst (v := 1) hx hb dX10_readsLine_253 (by decide) ?_
  obtain rfl := Option.some.inj h
  exact eZ C0 hPD.1 hPD.2 hS rfl rfl dX10_readsLine_254
set_option maxRecDepth 100000 in
set_option maxHeartbeats 4000000 in
theorem ww_f10_readsLine_b179  (C0 : Cx cX10_readsLine 3 (some .boolean) RX10 p s m args meth c G DA) {h0 : Nat} {a0 : Nat → Nat}   {res : Int32 × (Nat → Nat → Int32) × (Nat → Int32)}  : ∀ (A0 : Nat → Nat → Int32) (f0 : Nat → Int32) (l1 : Int32) (l2 : Int32) (s0 : Int32), f10_readsLine_b179   A0 f0 l1 l2 s0 = some res → ∀ (H : Heap) (locs : List Loc) (ls : Array Slot), WD G DA (wX10 G h0 a0 f0 A0) H → va_S DA s.heap H locs → lv_has ls 3 [(0, .ref h0), (1, .int l1), (2, .int l2)] → W p l e rmX10_readsLine s m args below meth c H locs 0 0 (MQ below (QI G DA res.1 (wX10 G h0 a0 res.2.2 res.2.1)) args s 0 0 DA) (F0 m 179 ls [.int s0, .ref h0]) := by
  obtain ⟨hx, hb, hml, hown, hts⟩ := C0.1
  have hK := C0.2.2.2.1
  intro A0 f0 l1 l2 s0 h _ _ _ hPD hS hl
  unfold f10_readsLine_b179 at h
  obtain ⟨q_9, hq_9, h⟩ := ob2 h
  refine kVI (As := [.int s0]) (rest := []) C0 (kt_X10_readsAmount l G h0 a0 f0 A0 s0 hq_9) gi_V_X10_281_X10_readsAmount (n := 1) rfl (by decide +kernel) rfl ⟨rfl, rfl, Nat.le_of_ble_eq_true rfl, Nat.le_of_ble_eq_true rfl⟩ hPD hS 0 10 rfl rfl rfl [0, 1, 2, 3, 4, 5, 6, 7, 8, 9, 10, 11, 12, 13, 14, 15, 16, 17, 18, 19, 20, 21, 22, 23, 24, 25, 26, 27, 28, 29, 30, 31, 32, 33] [] [0, 1, 2, 3, 4, 5, 6, 7, 8, 9, 10, 11, 12, 13, 14, 15, 16, 17, 18, 19, 20, 21, 22, 23, 24, 25, 26, 27, 28, 29, 30, 31, 32, 33] (wr := ([] : va_W)) (wN := (wX10 G h0 a0 q_9.2 A0)) rfl rfl rfl rfl rfl hl.1 (Nat.le_of_ble_eq_true rfl) dX10_readsLine_179 (fun H locs hPD hS => ?_)
  refine lv_if_ne (tgt := 187) hx hb dX10_readsLine_182 (by decide) (fun cc1 => ?_) (fun cc1 => ?_)
  · have h := (if_neg cc1).symm.trans h
    refine lv_iload_n hx hb dX10_readsLine_187 rfl (lv_at hl 2 rfl) ?_
    refine lv_bipush (v := 61) hx hb dX10_readsLine_188 (by decide) ?_
    refine lv_icmp_ne (tgt := 209) hx hb dX10_readsLine_190 (by decide) (fun cc1 => ?_) (fun cc1 => ?_)
    · have h := (if_neg cc1).symm.trans h
      refine lv_aload_n hx hb dX10_readsLine_209 rfl (lv_at hl 0 rfl) ?_
      refine va_get (D := G.1) (ci := 10) (v := .ref (a0 0)) (C := RX10) (T := TX10) (N := 52) hx hb hts inlX10 hown hK hPD.1 0 rfl rfl 0 (by decide) (hts _ gw_536) (fun _ h9 => h9) rfl dX10_readsLine_210 ?_
      refine lv_iconst (v := 0) hx hb dX10_readsLine_213 (by decide) ?_
      refine lv_iload_n hx hb dX10_readsLine_214 rfl (lv_at hl 1 rfl) ?_
      refine lv_iadd hx hb dX10_readsLine_215 ?_
      refine lv_iconst (v := 0) hx hb dX10_readsLine_216 (by decide) ?_
      refine lv_bipush (v := 99) hx hb dX10_readsLine_217 (by decide) ?_
      refine lv_aload_n hx hb dX10_readsLine_219 rfl (lv_at hl 0 rfl) ?_
      refine va_get (D := G.1) (ci := 10) (v := .ref (a0 0)) (C := RX10) (T := TX10) (N := 52) hx hb hts inlX10 hown hK hPD.1 0 rfl rfl 0 (by decide) (hts _ gw_536) (fun _ h9 => h9) rfl dX10_readsLine_220 ?_
      refine lv_iconst (v := 0) hx hb dX10_readsLine_223 (by decide) ?_
      refine lv_iload_n hx hb dX10_readsLine_224 rfl (lv_at hl 1 rfl) ?_
      refine lv_iadd hx hb dX10_readsLine_225 ?_
      obtain ⟨hi_10, h⟩ := ob h
      refine va_iald hx hb hK hPD.1 1 1 rfl rfl hi_10 dX10_readsLine_226 ?_
      refine lv_iload_n hx hb dX10_readsLine_227 rfl (lv_at hl 2 rfl) ?_
      refine lv_bipush (v := 43) hx hb dX10_readsLine_228 (by decide) ?_
      refine lv_icmp_ne (tgt := 240) hx hb dX10_readsLine_230 (by decide) (fun cc1 => ?_) (fun cc1 => ?_)
      · have h := (if_neg cc1).symm.trans h
        refine lv_aload_n hx hb dX10_readsLine_240 rfl (lv_at hl 0 rfl) ?_
        refine va_get (D := G.1) (ci := 10) (v := .int (q_9.2 12)) (C := RX10) (T := TX10) (N := 52) hx hb hts inlX10 hown hK hPD.1 0 rfl rfl 12 (by decide) (hts _ gw_562) (fun _ h9 => h9) rfl dX10_readsLine_241 ?_
        refine lv_ineg hx hb dX10_readsLine_244 ?_
        exact ww_f10_readsLine_b245 C0 A0 q_9.2 (-(q_9.2 12)) (gx (A0 0) (0 + l1)) 99 0 (0 + l1) h _ _ _ hPD hS (lv_sub hl [0] rfl)
      · have h := (if_pos cc1).symm.trans h
        refine lv_aload_n hx hb dX10_readsLine_233 rfl (lv_at hl 0 rfl) ?_
        refine va_get (D := G.1) (ci := 10) (v := .int (q_9.2 12)) (C := RX10) (T := TX10) (N := 52) hx hb hts inlX10 hown hK hPD.1 0 rfl rfl 12 (by decide) (hts _ gw_562) (fun _ h9 => h9) rfl dX10_readsLine_234 ?_
        refine lv_goto (tgt := 245) hx hb dX10_readsLine_237 (by decide) ?_
        exact ww_f10_readsLine_b245 C0 A0 q_9.2 (q_9.2 12) (gx (A0 0) (0 + l1)) 99 0 (0 + l1) h _ _ _ hPD hS (lv_sub hl [0] rfl)
    · have h := (if_pos cc1).symm.trans h
      refine lv_aload_n hx hb dX10_readsLine_193 rfl (lv_at hl 0 rfl) ?_
      refine va_get (D := G.1) (ci := 10) (v := .ref (a0 0)) (C := RX10) (T := TX10) (N := 52) hx hb hts inlX10 hown hK hPD.1 0 rfl rfl 0 (by decide) (hts _ gw_536) (fun _ h9 => h9) rfl dX10_readsLine_194 ?_
      refine lv_bipush (v := 16) hx hb dX10_readsLine_197 (by decide) ?_
      refine lv_iload_n hx hb dX10_readsLine_199 rfl (lv_at hl 1 rfl) ?_
      refine lv_iadd hx hb dX10_readsLine_200 ?_
      refine lv_aload_n hx hb dX10_readsLine_201 rfl (lv_at hl 0 rfl) ?_
      refine va_get (D := G.1) (ci := 10) (v := .int (q_9.2 12)) (C := RX10) (T := TX10) (N := 52) hx hb hts inlX10 hown hK hPD.1 0 rfl rfl 12 (by decide) (hts _ gw_562) (fun _ h9 => h9) rfl dX10_readsLine_202 ?_
      obtain ⟨hi_13, h⟩ := ob h
      refine va_iast hx hb hK hPD.1 hPD.2 hS 1 1 rfl rfl hi_13 dX10_readsLine_205 (fun H locs hP hD hS => ?_)
      obtain ⟨A0_14, eA0_14, h⟩ := lvl h
      have hPD : WD G DA (wX10 G h0 a0 q_9.2 A0_14) H := by rw [eA0_14]; exact ⟨hP, hD⟩
      clear eA0_14 hP hD
      refine lv_goto (tgt := 253) hx hb dX10_readsLine_206 (by decide) ?_
      refine lv_iconst (v := 1) hx hb dX10_readsLine_253 (by decide) ?_
      obtain rfl := Option.some.inj h
      exact eZ C0 hPD.1 hPD.2 hS rfl rfl dX10_readsLine_254
  · have h := (if_pos cc1).symm.trans h
    refine lv_iconst (v := 0) hx hb dX10_readsLine_185 (by decide) ?_
    obtain rfl := Option.some.inj h
    exact eZ C0 hPD.1 hPD.2 hS rfl rfl dX10_readsLine_186
end WALK
