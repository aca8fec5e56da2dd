section WALK
variable {p : Program} {l : Launch} {e : Env} {s : State} {m : MethodId} {args : Array Value} {below : List Frame} {meth : Method} {c : Code} {G : Gp} {DA : Nat → Prop}
set_option maxRecDepth 100000 in
set_option maxHeartbeats 4000000 in
theorem ww_f10_types_l2  (C0 : Cx cX10_types 3 none RX10 p s m args meth c G DA) {h0 : Nat} {a0 : Nat → Nat} {p1 : Int32}   {res : (Nat → Nat → Int32) × (Nat → Int32)}  : ∀ (n : Nat) (A0 : Nat → Nat → Int32) (f0 : Nat → Int32) (l2 : Int32), f10_types_l2 p1  n A0 f0 l2 = some res → ∀ (H : Heap) (locs : List Loc) (ls : Array Slot), WD G DA (wX10 G h0 a0 f0 A0) H → va_S DA s.heap H locs → lv_has ls 3 [(0, .ref h0), (1, .int p1), (2, .int l2)] → W p l e rmX10_types s m args below meth c H locs 0 0 (MQ below (QV G DA (wX10 G h0 a0 res.2 res.1)) args s 0 0 DA) (F0 m 2 ls []) := by
  intro n
  induction n with
  | zero => intro A0 f0 l2 h; cases h
  | succ n ih => intro A0 f0 l2 h; exact ww_f10_types_b2 C0  ih A0 f0 l2 h
set_option maxRecDepth 100000 in
set_option maxHeartbeats 4000000 in
theorem kt_X10_types (l : Launch) (G : Gp) (h0 : Nat) (a0 : Nat → Nat) (f0 : Nat → Int32) (A0 : Nat → Nat → Int32) (p1 : Int32) : ∀ {r : (Nat → Nat → Int32) × (Nat → Int32)}, f10_types f0 A0 p1 = some r → CtrV l yX10_types cX10_types 3 none rmX10_types G [.ref h0, .int p1] (wX10 G h0 a0 f0 A0) (wX10 G h0 a0 r.2 r.1) := by
  intro res h
  refine ctrV_of (cc := cX10_types) (maxL := 3) (ret := none) (by decide +kernel) rfl (Nat.le_of_ble_eq_true rfl) (fun p e s m below meth c DA C0 hP hD ls hl => ?_)
  have hPD : WD G DA (wX10 G h0 a0 f0 A0) s.heap := ⟨hP, hD⟩
  have hS : va_S DA s.heap s.heap [] := va_S.rf
  have hl : lv_has ls 3 [(0, .ref h0), (1, .int p1)] := hl
  obtain ⟨hx, hb, hml, hown, hts⟩ := C0.1
  have hK := C0.2.2.2.1
  unfold f10_types at h
  refine lv_iconst (v := 3) hx hb dX10_types_0 (by decide) ?_
  refine lv_istore_n (lv' := [(2, .int 3), (0, .ref h0), (1, .int p1)]) hx hb dX10_types_1 rfl hl (by decide) rfl (fun ls hl => ?_)
  exact ww_f10_types_l2 C0 NF A0 f0 3 h _ _ _ hPD hS (lv_sub hl [1, 2, 0] rfl)
abbrev rmX10_feed : Room := { frames := 1, cells := 0, slots := 0, locals := 22 }
set_option maxRecDepth 100000 in
set_option maxHeartbeats 4000000 in
theorem kt_X10_feed (l : Launch) (G : Gp) (h0 : Nat) (a0 : Nat → Nat) (f0 : Nat → Int32) (A0 : Nat → Nat → Int32) (p1 : Int32) (p2 : Int32) (p3 : Int32) (p4 : Int32) (p5 : Int32) : ∀ {r : Int32 × (Nat → Nat → Int32) × (Nat → Int32)}, f10_feed f0 A0 p1 p2 p3 p4 p5 = some r → CtrI l yX10_feed cX10_feed 6 (some .int) rmX10_feed G [.ref h0, .int p1, .int p2, .int p3, .int p4, .int p5] (wX10 G h0 a0 f0 A0) r.1 (wX10 G h0 a0 r.2.2 r.2.1) := by
  intro res h
  refine ctrI_of (cc := cX10_feed) (maxL := 6) (ret := (some .int)) (by decide +kernel) rfl (Nat.le_of_ble_eq_true rfl) (fun p e s m below meth c DA C0 hP hD ls hl => ?_)
  have hPD : WD G DA (wX10 G h0 a0 f0 A0) s.heap := ⟨hP, hD⟩
  have hS : va_S DA s.heap s.heap [] := va_S.rf
  have hl : lv_has ls 6 [(0, .ref h0), (1, .int p1), (2, .int p2), (3, .int p3), (4, .int p4), (5, .int p5)] := hl
  obtain ⟨hx, hb, hml, hown, hts⟩ := C0.1
  have hK := C0.2.2.2.1
  unfold f10_feed at h
  refine lv_aload_n hx hb dX10_feed_0 rfl (lv_at hl 0 rfl) ?_
  refine va_get (D := G.1) (ci := 10) (v := .int (f0 8)) (C := RX10) (T := TX10) (N := 52) hx hb hts inlX10 hown hK hPD.1 0 rfl rfl 8 (by decide) (hts _ gw_546) (fun _ h9 => h9) rfl dX10_feed_1 ?_
  refine lv_bipush (v := 20) hx hb dX10_feed_4 (by decide) ?_
  refine lv_iadd hx hb dX10_feed_6 ?_
  refine lv_sipush (v := 260) hx hb dX10_feed_7 (by decide) ?_
  refine lv_icmp_le (tgt := 15) hx hb dX10_feed_10 (by decide) (fun cc1 => ?_) (fun cc1 => ?_)
  · have h := (if_pos cc1).symm.trans h
    refine lv_aload_n hx hb dX10_feed_15 rfl (lv_at hl 0 rfl) ?_
    refine lv_iload_n hx hb dX10_feed_16 rfl (lv_at hl 1 rfl) ?_
    obtain ⟨q_1, hq_1, h⟩ := ob2 h
    refine kVV (As := [.int p1]) (rest := []) C0 (kt_X10_types l G h0 a0 f0 A0 p1 hq_1) gi_V_X10_134_X10_types (n := 1) rfl (by decide +kernel) rfl ⟨rfl, rfl, Nat.le_of_ble_eq_true rfl, Nat.le_of_ble_eq_true rfl⟩ hPD hS 0 10 rfl rfl rfl [0, 1, 2, 3, 4, 5, 6, 7, 8, 9, 10, 11, 12, 13, 14, 15, 16, 17, 18, 19, 20, 21, 22, 23, 24, 25, 26, 27, 28, 29, 30, 31, 32, 33] [] [0, 1, 2, 3, 4, 5, 6, 7, 8, 9, 10, 11, 12, 13, 14, 15, 16, 17, 18, 19, 20, 21, 22, 23, 24, 25, 26, 27, 28, 29, 30, 31, 32, 33] (wr := ([] : va_W)) (wN := (wX10 G h0 a0 q_1.2 q_1.1)) rfl rfl rfl rfl rfl hl.1 (Nat.le_of_ble_eq_true rfl) dX10_feed_17 (fun H locs hPD hS => ?_)
    refine lv_aload_n hx hb dX10_feed_20 rfl (lv_at hl 0 rfl) ?_
    refine lv_iload_n hx hb dX10_feed_21 rfl (lv_at hl 2 rfl) ?_
    obtain ⟨q_2, hq_2, h⟩ := ob2 h
    refine kVV (As := [.int p2]) (rest := []) C0 (kt_X10_types l G h0 a0 q_1.2 q_1.1 p2 hq_2) gi_V_X10_134_X10_types (n := 1) rfl (by decide +kernel) rfl ⟨rfl, rfl, Nat.le_of_ble_eq_true rfl, Nat.le_of_ble_eq_true rfl⟩ hPD hS 0 10 rfl rfl rfl [0, 1, 2, 3, 4, 5, 6, 7, 8, 9, 10, 11, 12, 13, 14, 15, 16, 17, 18, 19, 20, 21, 22, 23, 24, 25, 26, 27, 28, 29, 30, 31, 32, 33] [] [0, 1, 2, 3, 4, 5, 6, 7, 8, 9, 10, 11, 12, 13, 14, 15, 16, 17, 18, 19, 20, 21, 22, 23, 24, 25, 26, 27, 28, 29, 30, 31, 32, 33] (wr := ([] : va_W)) (wN := (wX10 G h0 a0 q_2.2 q_2.1)) rfl rfl rfl rfl rfl hl.1 (Nat.le_of_ble_eq_true rfl) dX10_feed_22 (fun H locs hPD hS => ?_)
    refine lv_aload_n hx hb dX10_feed_25 rfl (lv_at hl 0 rfl) ?_
    refine lv_iload_n hx hb dX10_feed_26 rfl (lv_at hl 3 rfl) ?_
    obtain ⟨q_3, hq_3, h⟩ := ob2 h
    refine kVV (As := [.int p3]) (rest := []) C0 (kt_X10_types l G h0 a0 q_2.2 q_2.1 p3 hq_3) gi_V_X10_134_X10_types (n := 1) rfl (by decide +kernel) rfl ⟨rfl, rfl, Nat.le_of_ble_eq_true rfl, Nat.le_of_ble_eq_true rfl⟩ hPD hS 0 10 rfl rfl rfl [0, 1, 2, 3, 4, 5, 6, 7, 8, 9, 10, 11, 12, 13, 14, 15, 16, 17, 18, 19, 20, 21, 22, 23, 24, 25, 26, 27, 28, 29, 30, 31, 32, 33] [] [0, 1, 2, 3, 4, 5, 6, 7, 8, 9, 10, 11, 12, 13, 14, 15, 16, 17, 18, 19, 20, 21, 22, 23, 24, 25, 26, 27, 28, 29, 30, 31, 32, 33] (wr := ([] : va_W)) (wN := (wX10 G h0 a0 q_3.2 q_3.1)) rfl rfl rfl rfl rfl hl.1 (Nat.le_of_ble_eq_true rfl) dX10_feed_27 (fun H locs hPD hS => ?_)
    refine lv_aload_n hx hb dX10_feed_30 rfl (lv_at hl 0 rfl) ?_
    refine lv_iload hx hb dX10_feed_31 (lv_at hl 4 rfl) ?_
    obtain ⟨q_4, hq_4, h⟩ := ob2 h
    refine kVV (As := [.int p4]) (rest := []) C0 (kt_X10_types l G h0 a0 q_3.2 q_3.1 p4 hq_4) gi_V_X10_134_X10_types (n := 1) rfl (by decide +kernel) rfl ⟨rfl, rfl, Nat.le_of_ble_eq_true rfl, Nat.le_of_ble_eq_true rfl⟩ hPD hS 0 10 rfl rfl rfl [0, 1, 2, 3, 4, 5, 6, 7, 8, 9, 10, 11, 12, 13, 14, 15, 16, 17, 18, 19, 20, 21, 22, 23, 24, 25, 26, 27, 28, 29, 30, 31, 32, 33] [] [0, 1, 2, 3, 4, 5, 6, 7, 8, 9, 10, 11, 12, 13, 14, 15, 16, 17, 18, 19, 20, 21, 22, 23, 24, 25, 26, 27, 28, 29, 30, 31, 32, 33] (wr := ([] : va_W)) (wN := (wX10 G h0 a0 q_4.2 q_4.1)) rfl rfl rfl rfl rfl hl.1 (Nat.le_of_ble_eq_true rfl) dX10_feed_33 (fun H locs hPD hS => ?_)
    refine lv_aload_n hx hb dX10_feed_36 rfl (lv_at hl 0 rfl) ?_
    refine lv_iload hx hb dX10_feed_37 (lv_at hl 5 rfl) ?_
    obtain ⟨q_5, hq_5, h⟩ := ob2 h
    refine kVV (As := [.int p5]) (rest := []) C0 (kt_X10_types l G h0 a0 q_4.2 q_4.1 p5 hq_5) gi_V_X10_134_X10_types (n := 1) rfl (by decide +kernel) rfl ⟨rfl, rfl, Nat.le_of_ble_eq_true rfl, Nat.le_of_ble_eq_true rfl⟩ hPD hS 0 10 rfl rfl rfl [0, 1, 2, 3, 4, 5, 6, 7, 8, 9, 10, 11, 12, 13, 14, 15, 16, 17, 18, 19, 20, 21, 22, 23, 24, 25, 26, 27, 28, 29, 30, 31, 32, 33] [] [0, 1, 2, 3, 4, 5, 6, 7, 8, 9, 10, 11, 12, 13, 14, 15, 16, 17, 18, 19, 20, 21, 22, 23, 24, 25, 26, 27, 28, 29, 30, 31, 32, 33] (wr := ([] : va_W)) (wN := (wX10 G h0 a0 q_5.2 q_5.1)) rfl rfl rfl rfl rfl hl.1 (Nat.le_of_ble_eq_true rfl) dX10_feed_39 (fun H locs hPD hS => ?_)
    refine lv_aload_n hx hb dX10_feed_42 rfl (lv_at hl 0 rfl) ?_
    refine va_get (D := G.1) (ci := 10) (v := .int (q_5.2 8)) (C := RX10) (T := TX10) (N := 52) hx hb hts inlX10 hown hK hPD.1 0 rfl rfl 8 (by decide) (hts _ gw_546) (fun _ h9 => h9) rfl dX10_feed_43 ?_
    obtain rfl := Option.some.inj h
    exact eI C0 hPD.1 hPD.2 hS rfl dX10_feed_46
  · have h := (if_neg cc1).symm.trans h
    refine lv_iconst (v := (-1)) hx hb dX10_feed_13 (by decide) ?_
    obtain rfl := Option.some.inj h
    exact eI C0 hPD.1 hPD.2 hS rfl dX10_feed_14
abbrev rmX10_octet : Room := { frames := 0, cells := 0, slots := 0, locals := 0 }
set_option maxRecDepth 100000 in
set_option maxHeartbeats 4000000 in
theorem kt_X10_octet (l : Launch) (G : Gp) (h0 : Nat) (a0 : Nat → Nat) (f0 : Nat → Int32) (A0 : Nat → Nat → Int32) (p1 : Int32) : ∀ {r : Int32}, f10_octet f0 A0 p1 = some r → CtrI l yX10_octet cX10_octet 2 (some .int) rmX10_octet G [.ref h0, .int p1] (wX10 G h0 a0 f0 A0) r (wX10 G h0 a0 f0 A0) := by
  intro res h
  refine ctrI_of (cc := cX10_octet) (maxL := 2) (ret := (some .int)) (by decide +kernel) rfl (Nat.le_of_ble_eq_true rfl) (fun p e s m below meth c DA C0 hP hD ls hl => ?_)
  have hPD : WD G DA (wX10 G h0 a0 f0 A0) s.heap := ⟨hP, hD⟩
  have hS : va_S DA s.heap s.heap [] := va_S.rf
  have hl : lv_has ls 2 [(0, .ref h0), (1, .int p1)] := hl
  obtain ⟨hx, hb, hml, hown, hts⟩ := C0.1
  have hK := C0.2.2.2.1
  unfold f10_octet at h
  refine lv_aload_n hx hb dX10_octet_0 rfl (lv_at hl 0 rfl) ?_
  refine va_get (D := G.1) (ci := 10) (v := .ref (a0 7)) (C := RX10) (T := TX10) (N := 52) hx hb hts inlX10 hown hK hPD.1 0 rfl rfl 7 (by decide) (hts _ gw_545) (fun _ h9 => h9) rfl dX10_octet_1 ?_
  refine lv_iload_n hx hb dX10_octet_4 rfl (lv_at hl 1 rfl) ?_
  obtain ⟨hi_1, h⟩ := ob h
  refine va_bald hx hb hK hPD.1 7 0 rfl rfl hi_1 dX10_octet_5 ?_
  refine lv_sipush (v := 255) hx hb dX10_octet_6 (by decide) ?_
  refine lv_iand hx hb dX10_octet_9 ?_
  obtain rfl := Option.some.inj h
  exact eI C0 hPD.1 hPD.2 hS rfl dX10_octet_10
abbrev rmX10_here : Room := { frames := 0, cells := 0, slots := 0, locals := 0 }
set_option maxRecDepth 100000 in
set_option maxHeartbeats 4000000 in
theorem kt_X10_here (l : Launch) (G : Gp) (h0 : Nat) (a0 : Nat → Nat) (f0 : Nat → Int32) (A0 : Nat → Nat → Int32) : ∀ {r : Int32}, f10_here f0 A0 = some r → CtrI l yX10_here cX10_here 1 (some .int) rmX10_here G [.ref h0] (wX10 G h0 a0 f0 A0) r (wX10 G h0 a0 f0 A0) := by
  intro res h
  refine ctrI_of (cc := cX10_here) (maxL := 1) (ret := (some .int)) (by decide +kernel) rfl (Nat.le_of_ble_eq_true rfl) (fun p e s m below meth c DA C0 hP hD ls hl => ?_)
  have hPD : WD G DA (wX10 G h0 a0 f0 A0) s.heap := ⟨hP, hD⟩
  have hS : va_S DA s.heap s.heap [] := va_S.rf
  have hl : lv_has ls 1 [(0, .ref h0)] := hl
  obtain ⟨hx, hb, hml, hown, hts⟩ := C0.1
  have hK := C0.2.2.2.1
  unfold f10_here at h
  refine lv_aload_n hx hb dX10_here_0 rfl (lv_at hl 0 rfl) ?_
  refine va_get (D := G.1) (ci := 10) (v := .int (f0 9)) (C := RX10) (T := TX10) (N := 52) hx hb hts inlX10 hown hK hPD.1 0 rfl rfl 9 (by decide) (hts _ gw_551) (fun _ h9 => h9) rfl dX10_here_1 ?_
  refine lv_aload_n hx hb dX10_here_4 rfl (lv_at hl 0 rfl) ?_
  refine va_get (D := G.1) (ci := 10) (v := .int (f0 10)) (C := RX10) (T := TX10) (N := 52) hx hb hts inlX10 hown hK hPD.1 0 rfl rfl 10 (by decide) (hts _ gw_552) (fun _ h9 => h9) rfl dX10_here_5 ?_
  refine lv_icmp_ge (tgt := 27) hx hb dX10_here_8 (by decide) (fun cc1 => ?_) (fun cc1 => ?_)
  · have h := (if_pos cc1).symm.trans h
    refine lv_iconst (v := (-1)) hx hb dX10_here_27 (by decide) ?_
    obtain rfl := Option.some.inj h
    exact eI C0 hPD.1 hPD.2 hS rfl dX10_here_28
  · have h := (if_neg cc1).symm.trans h
    refine lv_aload_n hx hb dX10_here_11 rfl (lv_at hl 0 rfl) ?_
    refine va_get (D := G.1) (ci := 10) (v := .ref (a0 7)) (C := RX10) (T := TX10) (N := 52) hx hb hts inlX10 hown hK hPD.1 0 rfl rfl 7 (by decide) (hts _ gw_545) (fun _ h9 => h9) rfl dX10_here_12 ?_
    refine lv_aload_n hx hb dX10_here_15 rfl (lv_at hl 0 rfl) ?_
    refine va_get (D := G.1) (ci := 10) (v := .int (f0 9)) (C := RX10) (T := TX10) (N := 52) hx hb hts inlX10 hown hK hPD.1 0 rfl rfl 9 (by decide) (hts _ gw_551) (fun _ h9 => h9) rfl dX10_here_16 ?_
    obtain ⟨hi_1, h⟩ := ob h
    refine va_bald hx hb hK hPD.1 7 0 rfl rfl hi_1 dX10_here_19 ?_
    refine lv_sipush (v := 255) hx hb dX10_here_20 (by decide) ?_
    refine lv_iand hx hb dX10_here_23 ?_
    refine lv_goto (tgt := 28) hx hb dX10_here_24 (by decide) ?_
    obtain rfl := Option.some.inj h
    exact eI C0 hPD.1 hPD.2 hS rfl dX10_here_28
abbrev rmX10_isDigit : Room := { frames := 1, cells := 0, slots := 0, locals := 20 }
set_option maxRecDepth 100000 in
set_option maxHeartbeats 4000000 in
theorem kt_X10_isDigit (l : Launch) (G : Gp) (h0 : Nat) (a0 : Nat → Nat) (f0 : Nat → Int32) (A0 : Nat → Nat → Int32) : ∀ {r : Int32}, f10_isDigit f0 A0 = some r → CtrI l yX10_isDigit cX10_isDigit 1 (some .boolean) rmX10_isDigit G [.ref h0] (wX10 G h0 a0 f0 A0) r (wX10 G h0 a0 f0 A0) := by
  intro res h
  refine ctrI_of (cc := cX10_isDigit) (maxL := 1) (ret := (some .boolean)) (by decide +kernel) rfl (Nat.le_of_ble_eq_true rfl) (fun p e s m below meth c DA C0 hP hD ls hl => ?_)
  have hPD : WD G DA (wX10 G h0 a0 f0 A0) s.heap := ⟨hP, hD⟩
  have hS : va_S DA s.heap s.heap [] := va_S.rf
  have hl : lv_has ls 1 [(0, .ref h0)] := hl
  obtain ⟨hx, hb, hml, hown, hts⟩ := C0.1
  have hK := C0.2.2.2.1
  unfold f10_isDigit at h
  refine lv_aload_n hx hb dX10_isDigit_0 rfl (lv_at hl 0 rfl) ?_
  obtain ⟨q_1, hq_1, h⟩ := ob2 h
  refine kVI (As := []) (rest := []) C0 (kt_X10_here l G h0 a0 f0 A0 hq_1) gi_V_X10_144_X10_here (n := 0) rfl (by decide +kernel) rfl ⟨rfl, rfl, Nat.le_of_ble_eq_true rfl, Nat.le_of_ble_eq_true rfl⟩ hPD hS 0 10 rfl rfl rfl [0, 1, 2, 3, 4, 5, 6, 7, 8, 9, 10, 11, 12, 13, 14, 15, 16, 17, 18, 19, 20, 21, 22, 23, 24, 25, 26, 27, 28, 29, 30, 31, 32, 33] [] [0, 1, 2, 3, 4, 5, 6, 7, 8, 9, 10, 11, 12, 13, 14, 15, 16, 17, 18, 19, 20, 21, 22, 23, 24, 25, 26, 27, 28, 29, 30, 31, 32, 33] (wr := ([] : va_W)) (wN := (wX10 G h0 a0 f0 A0)) rfl rfl rfl rfl rfl hl.1 (Nat.le_of_ble_eq_true rfl) dX10_isDigit_1 (fun H locs hPD hS => ?_)
  refine lv_bipush (v := 48) hx hb dX10_isDigit_4 (by decide) ?_
  refine lv_icmp_lt (tgt := 22) hx hb dX10_isDigit_6 (by decide) (fun cc1 => ?_) (fun cc1 => ?_)
  · have h := (if_pos cc1).symm.trans h
    refine lv_iconst (v := 0) hx hb dX10_isDigit_22 (by decide) ?_
    obtain rfl := Option.some.inj h
    exact eZ C0 hPD.1 hPD.2 hS rfl rfl dX10_isDigit_23
  · have h := (if_neg cc1).symm.trans h
    refine lv_aload_n hx hb dX10_isDigit_9 rfl (lv_at hl 0 rfl) ?_
    obtain ⟨q_2, hq_2, h⟩ := ob2 h
    refine kVI (As := []) (rest := []) C0 (kt_X10_here l G h0 a0 f0 A0 hq_2) gi_V_X10_144_X10_here (n := 0) rfl (by decide +kernel) rfl ⟨rfl, rfl, Nat.le_of_ble_eq_true rfl, Nat.le_of_ble_eq_true rfl⟩ hPD hS 0 10 rfl rfl rfl [0, 1, 2, 3, 4, 5, 6, 7, 8, 9, 10, 11, 12, 13, 14, 15, 16, 17, 18, 19, 20, 21, 22, 23, 24, 25, 26, 27, 28, 29, 30, 31, 32, 33] [] [0, 1, 2, 3, 4, 5, 6, 7, 8, 9, 10, 11, 12, 13, 14, 15, 16, 17, 18, 19, 20, 21, 22, 23, 24, 25, 26, 27, 28, 29, 30, 31, 32, 33] (wr := ([] : va_W)) (wN := (wX10 G h0 a0 f0 A0)) rfl rfl rfl rfl rfl hl.1 (Nat.le_of_ble_eq_true rfl) dX10_isDigit_10 (fun H locs hPD hS => ?_)
    refine lv_bipush (v := 57) hx hb dX10_isDigit_13 (by decide) ?_
    refine lv_icmp_gt (tgt := 22) hx hb dX10_isDigit_15 (by decide) (fun cc1 => ?_) (fun cc1 => ?_)
    · have h := (if_pos cc1).symm.trans h
      refine lv_iconst (v := 0) hx hb dX10_isDigit_22 (by decide) ?_
      obtain rfl := Option.some.inj h
      exact eZ C0 hPD.1 hPD.2 hS rfl rfl dX10_isDigit_23
    · have h := (if_neg cc1).symm.trans h
      refine lv_iconst (v := 1) hx hb dX10_isDigit_18 (by decide) ?_
      refine lv_goto (tgt := 23) hx hb dX10_isDigit_19 (by decide) ?_
      obtain rfl := Option.some.inj h
      exact eZ C0 hPD.1 hPD.2 hS rfl rfl dX10_isDigit_23
abbrev rmX10_wrongAt : Room := { frames := 0, cells := 0, slots := 0, locals := 0 }
set_option maxRecDepth 100000 in
set_option maxHeartbeats 4000000 in
theorem kt_X10_wrongAt (l : Launch) (G : Gp) (h0 : Nat) (a0 : Nat → Nat) (f0 : Nat → Int32) (A0 : Nat → Nat → Int32) (p1 : Int32) (p2 : Int32) : ∀ {r : Int32 × (Nat → Int32)}, f10_wrongAt f0 A0 p1 p2 = some r → CtrI l yX10_wrongAt cX10_wrongAt 3 (some .boolean) rmX10_wrongAt G [.ref h0, .int p1, .int p2] (wX10 G h0 a0 f0 A0) r.1 (wX10 G h0 a0 r.2 A0) := by
  intro res h
  refine ctrI_of (cc := cX10_wrongAt) (maxL := 3) (ret := (some .boolean)) (by decide +kernel) rfl (Nat.le_of_ble_eq_true rfl) (fun p e s m below meth c DA C0 hP hD ls hl => ?_)
  have hPD : WD G DA (wX10 G h0 a0 f0 A0) s.heap := ⟨hP, hD⟩
  have hS : va_S DA s.heap s.heap [] := va_S.rf
  have hl : lv_has ls 3 [(0, .ref h0), (1, .int p1), (2, .int p2)] := hl
  obtain ⟨hx, hb, hml, hown, hts⟩ := C0.1
  have hK := C0.2.2.2.1
  unfold f10_wrongAt at h
  refine lv_aload_n hx hb dX10_wrongAt_0 rfl (lv_at hl 0 rfl) ?_
  refine lv_sipush (v := (-1000)) hx hb dX10_wrongAt_1 (by decide) ?_
  refine lv_iload_n hx hb dX10_wrongAt_4 rfl (lv_at hl 1 rfl) ?_
  refine lv_imul hx hb dX10_wrongAt_5 ?_
  refine lv_iload_n hx hb dX10_wrongAt_6 rfl (lv_at hl 2 rfl) ?_
  refine lv_isub hx hb dX10_wrongAt_7 ?_
  refine va_put (D := G.1) (ci := 10) (v := .int (((-1000) * p1) - p2)) (ty := .int) (C := RX10) (T := TX10) (N := 52) hx hb hts inlX10 tyX10 tyX10_ok nmX10 hown hK hPD.1 hPD.2 hS 0 rfl rfl 11 (by decide) (hts _ gw_557) (fun _ h9 => h9) rfl (by decide +kernel) rfl rfl (Nat.le_of_ble_eq_true rfl) dX10_wrongAt_8 (fun H locs hP hD hS => ?_)
  obtain ⟨f0_1, ef0_1, h⟩ := lvl h
  have hPD : WD G DA (wX10 G h0 a0 f0_1 A0) H := by rw [ef0_1]; exact ⟨hP, hD⟩
  clear ef0_1 hP hD
  refine lv_iconst (v := 0) hx hb dX10_wrongAt_11 (by decide) ?_
  obtain rfl := Option.some.inj h
  exact eZ C0 hPD.1 hPD.2 hS rfl rfl dX10_wrongAt_12
abbrev rmX10_takes : Room := { frames := 1, cells := 0, slots := 0, locals := 22 }
set_option maxRecDepth 100000 in
set_option maxHeartbeats 4000000 in
theorem kt_X10_takes (l : Launch) (G : Gp) (h0 : Nat) (a0 : Nat → Nat) (f0 : Nat → Int32) (A0 : Nat → Nat → Int32) (p1 : Int32) : ∀ {r : Int32 × (Nat → Int32)}, f10_takes f0 A0 p1 = some r → CtrI l yX10_takes cX10_takes 2 (some .boolean) rmX10_takes G [.ref h0, .int p1] (wX10 G h0 a0 f0 A0) r.1 (wX10 G h0 a0 r.2 A0) := by
  intro res h
  refine ctrI_of (cc := cX10_takes) (maxL := 2) (ret := (some .boolean)) (by decide +kernel) rfl (Nat.le_of_ble_eq_true rfl) (fun p e s m below meth c DA C0 hP hD ls hl => ?_)
  have hPD : WD G DA (wX10 G h0 a0 f0 A0) s.heap := ⟨hP, hD⟩
  have hS : va_S DA s.heap s.heap [] := va_S.rf
  have hl : lv_has ls 2 [(0, .ref h0), (1, .int p1)] := hl
  obtain ⟨hx, hb, hml, hown, hts⟩ := C0.1
  have hK := C0.2.2.2.1
  unfold f10_takes at h
  refine lv_aload_n hx hb dX10_takes_0 rfl (lv_at hl 0 rfl) ?_
  obtain ⟨q_1, hq_1, h⟩ := ob2 h
  refine kVI (As := []) (rest := []) C0 (kt_X10_here l G h0 a0 f0 A0 hq_1) gi_V_X10_144_X10_here (n := 0) rfl (by decide +kernel) rfl ⟨rfl, rfl, Nat.le_of_ble_eq_true rfl, Nat.le_of_ble_eq_true rfl⟩ hPD hS 0 10 rfl rfl rfl [0, 1, 2, 3, 4, 5, 6, 7, 8, 9, 10, 11, 12, 13, 14, 15, 16, 17, 18, 19, 20, 21, 22, 23, 24, 25, 26, 27, 28, 29, 30, 31, 32, 33] [] [0, 1, 2, 3, 4, 5, 6, 7, 8, 9, 10, 11, 12, 13, 14, 15, 16, 17, 18, 19, 20, 21, 22, 23, 24, 25, 26, 27, 28, 29, 30, 31, 32, 33] (wr := ([] : va_W)) (wN := (wX10 G h0 a0 f0 A0)) rfl rfl rfl rfl rfl hl.1 (Nat.le_of_ble_eq_true rfl) dX10_takes_1 (fun H locs hPD hS => ?_)
  refine lv_iload_n hx hb dX10_takes_4 rfl (lv_at hl 1 rfl) ?_
  refine lv_icmp_eq (tgt := 18) hx hb dX10_takes_5 (by decide) (fun cc1 => ?_) (fun cc1 => ?_)
  · have h := (if_pos cc1).symm.trans h
    refine lv_aload_n hx hb dX10_takes_18 rfl (lv_at hl 0 rfl) ?_
    refine lv_aload_n hx hb dX10_takes_19 rfl (lv_at hl 0 rfl) ?_
    refine va_get (D := G.1) (ci := 10) (v := .int (f0 9)) (C := RX10) (T := TX10) (N := 52) hx hb hts inlX10 hown hK hPD.1 0 rfl rfl 9 (by decide) (hts _ gw_551) (fun _ h9 => h9) rfl dX10_takes_20 ?_
    refine lv_iconst (v := 1) hx hb dX10_takes_23 (by decide) ?_
    refine lv_iadd hx hb dX10_takes_24 ?_
    refine va_put (D := G.1) (ci := 10) (v := .int ((f0 9) + 1)) (ty := .int) (C := RX10) (T := TX10) (N := 52) hx hb hts inlX10 tyX10 tyX10_ok nmX10 hown hK hPD.1 hPD.2 hS 0 rfl rfl 9 (by decide) (hts _ gw_551) (fun _ h9 => h9) rfl (by decide +kernel) rfl rfl (Nat.le_of_ble_eq_true rfl) dX10_takes_25 (fun H locs hP hD hS => ?_)
    obtain ⟨f0_2, ef0_2, h⟩ := lvl h
    have hPD : WD G DA (wX10 G h0 a0 f0_2 A0) H := by rw [ef0_2]; exact ⟨hP, hD⟩
    clear ef0_2 hP hD
    refine lv_iconst (v := 1) hx hb dX10_takes_28 (by decide) ?_
    obtain rfl := Option.some.inj h
    exact eZ C0 hPD.1 hPD.2 hS rfl rfl dX10_takes_29
  · have h := (if_neg cc1).symm.trans h
    refine lv_aload_n hx hb dX10_takes_8 rfl (lv_at hl 0 rfl) ?_
    refine lv_iconst (v := 1) hx hb dX10_takes_9 (by decide) ?_
    refine lv_aload_n hx hb dX10_takes_10 rfl (lv_at hl 0 rfl) ?_
    refine va_get (D := G.1) (ci := 10) (v := .int (f0 9)) (C := RX10) (T := TX10) (N := 52) hx hb hts inlX10 hown hK hPD.1 0 rfl rfl 9 (by decide) (hts _ gw_551) (fun _ h9 => h9) rfl dX10_takes_11 ?_
    obtain ⟨q_3, hq_3, h⟩ := ob2 h
    refine kVI (As := [.int 1, .int (f0 9)]) (rest := []) C0 (kt_X10_wrongAt l G h0 a0 f0 A0 1 (f0 9) hq_3) gi_V_X10_151_X10_wrongAt (n := 2) rfl (by decide +kernel) rfl ⟨rfl, rfl, Nat.le_of_ble_eq_true rfl, Nat.le_of_ble_eq_true rfl⟩ hPD hS 0 10 rfl rfl rfl [0, 1, 2, 3, 4, 5, 6, 7, 8, 9, 10, 11, 12, 13, 14, 15, 16, 17, 18, 19, 20, 21, 22, 23, 24, 25, 26, 27, 28, 29, 30, 31, 32, 33] [] [0, 1, 2, 3, 4, 5, 6, 7, 8, 9, 10, 11, 12, 13, 14, 15, 16, 17, 18, 19, 20, 21, 22, 23, 24, 25, 26, 27, 28, 29, 30, 31, 32, 33] (wr := ([] : va_W)) (wN := (wX10 G h0 a0 q_3.2 A0)) rfl rfl rfl rfl rfl hl.1 (Nat.le_of_ble_eq_true rfl) dX10_takes_14 (fun H locs hPD hS => ?_)
    obtain ⟨hz, h⟩ := ob h
    obtain rfl := Option.some.inj h
    exact eZ C0 hPD.1 hPD.2 hS rfl (nbool (Classical.not_not.mp hz)) dX10_takes_17
abbrev rmX10_readsNumber : Room := { frames := 2, cells := 0, slots := 0, locals := 40 }
set_option maxRecDepth 100000 in
set_option maxHeartbeats 4000000 in
theorem ww_f10_readsNumber_b10  (C0 : Cx cX10_readsNumber 2 (some .boolean) RX10 p s m args meth c G DA) {h0 : Nat} {a0 : Nat → Nat} {A0 : Nat → Nat → Int32}  {k10 : (Nat → Int32) → Int32 → Option (Int32 × (Nat → Int32))} {res : Int32 × (Nat → Int32)}  (hk10 : ∀ (f0 : Nat → Int32) (l1 : Int32), k10 f0 l1 = some res → ∀ (H : Heap) (locs : List Loc) (ls : Array Slot), WD G DA (wX10 G h0 a0 f0 A0) H → va_S DA s.heap H locs → lv_has ls 2 [(0, .ref h0), (1, .int l1)] → W p l e rmX10_readsNumber s m args below meth c H locs 0 0 (MQ below (QI G DA res.1 (wX10 G h0 a0 res.2 A0)) args s 0 0 DA) (F0 m 10 ls [])) : ∀ (f0 : Nat → Int32) (l1 : Int32), f10_readsNumber_b10 A0  k10 f0 l1 = some res → ∀ (H : Heap) (locs : List Loc) (ls : Array Slot), WD G DA (wX10 G h0 a0 f0 A0) H → va_S DA s.heap H locs → lv_has ls 2 [(0, .ref h0), (1, .int l1)] → W p l e rmX10_readsNumber s m args below meth c H locs 0 0 (MQ below (QI G DA res.1 (wX10 G h0 a0 res.2 A0)) args s 0 0 DA) (F0 m 10 ls []) := by
  obtain ⟨hx, hb, hml, hown, hts⟩ := C0.1
  have hK := C0.2.2.2.1
  intro f0 l1 h _ _ _ hPD hS hl
  unfold f10_readsNumber_b10 at h
  refine lv_aload_n hx hb dX10_readsNumber_10 rfl (lv_at hl 0 rfl) ?_
  obtain ⟨q_2, hq_2, h⟩ := ob2 h
  refine kVI (As := []) (rest := []) C0 (kt_X10_isDigit l G h0 a0 f0 A0 hq_2) gi_V_X10_157_X10_isDigit (n := 0) rfl (by decide +kernel) rfl ⟨rfl, rfl, Nat.le_of_ble_eq_true rfl, Nat.le_of_ble_eq_true rfl⟩ hPD hS 0 10 rfl rfl rfl [0, 1, 2, 3, 4, 5, 6, 7, 8, 9, 10, 11, 12, 13, 14, 15, 16, 17, 18, 19, 20, 21, 22, 23, 24, 25, 26, 27, 28, 29, 30, 31, 32, 33] [] [0, 1, 2, 3, 4, 5, 6, 7, 8, 9, 10, 11, 12, 13, 14, 15, 16, 17, 18, 19, 20, 21, 22, 23, 24, 25, 26, 27, 28, 29, 30, 31, 32, 33] (wr := ([] : va_W)) (wN := (wX10 G h0 a0 f0 A0)) rfl rfl rfl rfl rfl hl.1 (Nat.le_of_ble_eq_true rfl) dX10_readsNumber_11 (fun H locs hPD hS => ?_)
  refine lv_if_eq (tgt := 69) hx hb dX10_readsNumber_14 (by decide) (fun cc1 => ?_) (fun cc1 => ?_)
  · have h := (if_pos cc1).symm.trans h
    refine lv_iconst (v := 1) hx hb dX10_readsNumber_69 (by decide) ?_
    obtain rfl := Option.some.inj h
    exact eZ C0 hPD.1 hPD.2 hS rfl rfl dX10_readsNumber_70
  · have h := (if_neg cc1).symm.trans h
    refine lv_aload_n hx hb dX10_readsNumber_17 rfl (lv_at hl 0 rfl) ?_
    refine va_get (D := G.1) (ci := 10) (v := .int (f0 9)) (C := RX10) (T := TX10) (N := 52) hx hb hts inlX10 hown hK hPD.1 0 rfl rfl 9 (by decide) (hts _ gw_551) (fun _ h9 => h9) rfl dX10_readsNumber_18 ?_
    refine lv_iload_n hx hb dX10_readsNumber_21 rfl (lv_at hl 1 rfl) ?_
    refine lv_iconst (v := 5) hx hb dX10_readsNumber_22 (by decide) ?_
    refine lv_iadd hx hb dX10_readsNumber_23 ?_
    refine lv_icmp_ne (tgt := 37) hx hb dX10_readsNumber_24 (by decide) (fun cc1 => ?_) (fun cc1 => ?_)
    · have h := (if_neg cc1).symm.trans h
      refine lv_aload_n hx hb dX10_readsNumber_37 rfl (lv_at hl 0 rfl) ?_
      refine lv_bipush (v := 10) hx hb dX10_readsNumber_38 (by decide) ?_
      refine lv_aload_n hx hb dX10_readsNumber_40 rfl (lv_at hl 0 rfl) ?_
      refine va_get (D := G.1) (ci := 10) (v := .int (f0 12)) (C := RX10) (T := TX10) (N := 52) hx hb hts inlX10 hown hK hPD.1 0 rfl rfl 12 (by decide) (hts _ gw_562) (fun _ h9 => h9) rfl dX10_readsNumber_41 ?_
      refine lv_imul hx hb dX10_readsNumber_44 ?_
      refine lv_aload_n hx hb dX10_readsNumber_45 rfl (lv_at hl 0 rfl) ?_
      obtain ⟨q_3, hq_3, h⟩ := ob2 h
      refine kVI (As := []) (rest := [.int (10 * (f0 12)), .ref h0]) C0 (kt_X10_here l G h0 a0 f0 A0 hq_3) gi_V_X10_144_X10_here (n := 0) rfl (by decide +kernel) rfl ⟨rfl, rfl, Nat.le_of_ble_eq_true rfl, Nat.le_of_ble_eq_true rfl⟩ hPD hS 0 10 rfl rfl rfl [0, 1, 2, 3, 4, 5, 6, 7, 8, 9, 10, 11, 12, 13, 14, 15, 16, 17, 18, 19, 20, 21, 22, 23, 24, 25, 26, 27, 28, 29, 30, 31, 32, 33] [] [0, 1, 2, 3, 4, 5, 6, 7, 8, 9, 10, 11, 12, 13, 14, 15, 16, 17, 18, 19, 20, 21, 22, 23, 24, 25, 26, 27, 28, 29, 30, 31, 32, 33] (wr := ([] : va_W)) (wN := (wX10 G h0 a0 f0 A0)) rfl rfl rfl rfl rfl hl.1 (Nat.le_of_ble_eq_true rfl) dX10_readsNumber_46 (fun H locs hPD hS => ?_)
      refine lv_iadd hx hb dX10_readsNumber_49 ?_
      refine lv_bipush (v := 48) hx hb dX10_readsNumber_50 (by decide) ?_
      refine lv_isub hx hb dX10_readsNumber_52 ?_
      refine va_put (D := G.1) (ci := 10) (v := .int (((10 * (f0 12)) + q_3) - 48)) (ty := .int) (C := RX10) (T := TX10) (N := 52) hx hb hts inlX10 tyX10 tyX10_ok nmX10 hown hK hPD.1 hPD.2 hS 0 rfl rfl 12 (by decide) (hts _ gw_562) (fun _ h9 => h9) rfl (by decide +kernel) rfl rfl (Nat.le_of_ble_eq_true rfl) dX10_readsNumber_53 (fun H locs hP hD hS => ?_)
      obtain ⟨f0_4, ef0_4, h⟩ := lvl h
      have hPD : WD G DA (wX10 G h0 a0 f0_4 A0) H := by rw [ef0_4]; exact ⟨hP, hD⟩
      clear ef0_4 hP hD
      refine lv_aload_n hx hb dX10_readsNumber_56 rfl (lv_at hl 0 rfl) ?_
      refine lv_aload_n hx hb dX10_readsNumber_57 rfl (lv_at hl 0 rfl) ?_
      refine va_get (D := G.1) (ci := 10) (v := .int (f0_4 9)) (C := RX10) (T := TX10) (N := 52) hx hb hts inlX10 hown hK hPD.1 0 rfl rfl 9 (by decide) (hts _ gw_551) (fun _ h9 => h9) rfl dX10_readsNumber_58 ?_
      refine lv_iconst (v := 1) hx hb dX10_readsNumber_61 (by decide) ?_
      refine lv_iadd hx hb dX10_readsNumber_62 ?_
      refine va_put (D := G.1) (ci := 10) (v := .int ((f0_4 9) + 1)) (ty := .int) (C := RX10) (T := TX10) (N := 52) hx hb hts inlX10 tyX10 tyX10_ok nmX10 hown hK hPD.1 hPD.2 hS 0 rfl rfl 9 (by decide) (hts _ gw_551) (fun _ h9 => h9) rfl (by decide +kernel) rfl rfl (Nat.le_of_ble_eq_true rfl) dX10_readsNumber_63 (fun H locs hP hD hS => ?_)
      obtain ⟨f0_5, ef0_5, h⟩ := lvl h
      have hPD : WD G DA (wX10 G h0 a0 f0_5 A0) H := by rw [ef0_5]; exact ⟨hP, hD⟩
      clear ef0_5 hP hD
      refine lv_goto (tgt := 10) hx hb dX10_readsNumber_66 (by decide) ?_
      exact hk10 f0_5 l1 h _ _ _ hPD hS (lv_sub hl [0, 1] rfl)
    · have h := (if_pos cc1).symm.trans h
      refine lv_aload_n hx hb dX10_readsNumber_27 rfl (lv_at hl 0 rfl) ?_
      refine lv_iconst (v := 2) hx hb dX10_readsNumber_28 (by decide) ?_
      refine lv_aload_n hx hb dX10_readsNumber_29 rfl (lv_at hl 0 rfl) ?_
      refine va_get (D := G.1) (ci := 10) (v := .int (f0 9)) (C := RX10) (T := TX10) (N := 52) hx hb hts inlX10 hown hK hPD.1 0 rfl rfl 9 (by decide) (hts _ gw_551) (fun _ h9 => h9) rfl dX10_readsNumber_30 ?_
      obtain ⟨q_6, hq_6, h⟩ := ob2 h
      refine kVI (As := [.int 2, .int (f0 9)]) (rest := []) C0 (kt_X10_wrongAt l G h0 a0 f0 A0 2 (f0 9) hq_6) gi_V_X10_151_X10_wrongAt (n := 2) rfl (by decide +kernel) rfl ⟨rfl, rfl, Nat.le_of_ble_eq_true rfl, Nat.le_of_ble_eq_true rfl⟩ hPD hS 0 10 rfl rfl rfl [0, 1, 2, 3, 4, 5, 6, 7, 8, 9, 10, 11, 12, 13, 14, 15, 16, 17, 18, 19, 20, 21, 22, 23, 24, 25, 26, 27, 28, 29, 30, 31, 32, 33] [] [0, 1, 2, 3, 4, 5, 6, 7, 8, 9, 10, 11, 12, 13, 14, 15, 16, 17, 18, 19, 20, 21, 22, 23, 24, 25, 26, 27, 28, 29, 30, 31, 32, 33] (wr := ([] : va_W)) (wN := (wX10 G h0 a0 q_6.2 A0)) rfl rfl rfl rfl rfl hl.1 (Nat.le_of_ble_eq_true rfl) dX10_readsNumber_33 (fun H locs hPD hS => ?_)
      obtain ⟨hz, h⟩ := ob h
      obtain rfl := Option.some.inj h
      exact eZ C0 hPD.1 hPD.2 hS rfl (nbool (Classical.not_not.mp hz)) dX10_readsNumber_36
set_option maxRecDepth 100000 in
set_option maxHeartbeats 4000000 in
theorem ww_f10_readsNumber_l10  (C0 : Cx cX10_readsNumber 2 (some .boolean) RX10 p s m args meth c G DA) {h0 : Nat} {a0 : Nat → Nat} {A0 : Nat → Nat → Int32}   {res : Int32 × (Nat → Int32)}  : ∀ (n : Nat) (f0 : Nat → Int32) (l1 : Int32), f10_readsNumber_l10 A0  n f0 l1 = some res → ∀ (H : Heap) (locs : List Loc) (ls : Array Slot), WD G DA (wX10 G h0 a0 f0 A0) H → va_S DA s.heap H locs → lv_has ls 2 [(0, .ref h0), (1, .int l1)] → W p l e rmX10_readsNumber s m args below meth c H locs 0 0 (MQ below (QI G DA res.1 (wX10 G h0 a0 res.2 A0)) args s 0 0 DA) (F0 m 10 ls []) := by
  intro n
  induction n with
  | zero => intro f0 l1 h; cases h
  | succ n ih => intro f0 l1 h; exact ww_f10_readsNumber_b10 C0  ih f0 l1 h
set_option maxRecDepth 100000 in
set_option maxHeartbeats 4000000 in
theorem kt_X10_readsNumber (l : Launch) (G : Gp) (h0 : Nat) (a0 : Nat → Nat) (f0 : Nat → Int32) (A0 : Nat → Nat → Int32) : ∀ {r : Int32 × (Nat → Int32)}, f10_readsNumber f0 A0 = some r → CtrI l yX10_readsNumber cX10_readsNumber 2 (some .boolean) rmX10_readsNumber G [.ref h0] (wX10 G h0 a0 f0 A0) r.1 (wX10 G h0 a0 r.2 A0) := by
  intro res h
  refine ctrI_of (cc := cX10_readsNumber) (maxL := 2) (ret := (some .boolean)) (by decide +kernel) rfl (Nat.le_of_ble_eq_true rfl) (fun p e s m below meth c DA C0 hP hD ls hl => ?_)
  have hPD : WD G DA (wX10 G h0 a0 f0 A0) s.heap := ⟨hP, hD⟩
  have hS : va_S DA s.heap s.heap [] := va_S.rf
  have hl : lv_has ls 2 [(0, .ref h0)] := hl
  obtain ⟨hx, hb, hml, hown, hts⟩ := C0.1
  have hK := C0.2.2.2.1
  unfold f10_readsNumber at h
  refine lv_aload_n hx hb dX10_readsNumber_0 rfl (lv_at hl 0 rfl) ?_
  refine va_get (D := G.1) (ci := 10) (v := .int (f0 9)) (C := RX10) (T := TX10) (N := 52) hx hb hts inlX10 hown hK hPD.1 0 rfl rfl 9 (by decide) (hts _ gw_551) (fun _ h9 => h9) rfl dX10_readsNumber_1 ?_
  refine lv_istore_n (lv' := [(1, .int (f0 9)), (0, .ref h0)]) hx hb dX10_readsNumber_4 rfl hl (by decide) rfl (fun ls hl => ?_)
  refine lv_aload_n hx hb dX10_readsNumber_5 rfl (lv_at hl 1 rfl) ?_
  refine lv_iconst (v := 0) hx hb dX10_readsNumber_6 (by decide) ?_
  refine va_put (D := G.1) (ci := 10) (v := .int 0) (ty := .int) (C := RX10) (T := TX10) (N := 52) hx hb hts inlX10 tyX10 tyX10_ok nmX10 hown hK hPD.1 hPD.2 hS 0 rfl rfl 12 (by decide) (hts _ gw_562) (fun _ h9 => h9) rfl (by decide +kernel) rfl rfl (Nat.le_of_ble_eq_true rfl) dX10_readsNumber_7 (fun H locs hP hD hS => ?_)
  obtain ⟨f0_1, ef0_1, h⟩ := lvl h
  have hPD : WD G DA (wX10 G h0 a0 f0_1 A0) H := by rw [ef0_1]; exact ⟨hP, hD⟩
  clear ef0_1 hP hD
  exact ww_f10_readsNumber_l10 C0 NF f0_1 (f0 9) h _ _ _ hPD hS (lv_sub hl [1, 0] rfl)
abbrev rmX10_notes : Room := { frames := 0, cells := 0, slots := 0, locals := 0 }
set_option maxRecDepth 100000 in
set_option maxHeartbeats 4000000 in
theorem kt_X10_notes (l : Launch) (G : Gp) (h0 : Nat) (a0 : Nat → Nat) (f0 : Nat → Int32) (A0 : Nat → Nat → Int32) (p1 : Int32) (p2 : Int32) : ∀ {r : (Nat → Nat → Int32) × (Nat → Int32)}, f10_notes f0 A0 p1 p2 = some r → CtrV l yX10_notes cX10_notes 3 none rmX10_notes G [.ref h0, .int p1, .int p2] (wX10 G h0 a0 f0 A0) (wX10 G h0 a0 r.2 r.1) := by
  intro res h
  refine ctrV_of (cc := cX10_notes) (maxL := 3) (ret := none) (by decide +kernel) rfl (Nat.le_of_ble_eq_true rfl) (fun p e s m below meth c DA C0 hP hD ls hl => ?_)
  have hPD : WD G DA (wX10 G h0 a0 f0 A0) s.heap := ⟨hP, hD⟩
  have hS : va_S DA s.heap s.heap [] := va_S.rf
  have hl : lv_has ls 3 [(0, .ref h0), (1, .int p1), (2, .int p2)] := hl
  obtain ⟨hx, hb, hml, hown, hts⟩ := C0.1
  have hK := C0.2.2.2.1
  unfold f10_notes at h
  refine lv_aload_n hx hb dX10_notes_0 rfl (lv_at hl 0 rfl) ?_
  refine va_get (D := G.1) (ci := 10) (v := .ref (a0 18)) (C := RX10) (T := TX10) (N := 52) hx hb hts inlX10 hown hK hPD.1 0 rfl rfl 18 (by decide) (hts _ gw_567) (fun _ h9 => h9) rfl dX10_notes_1 ?_
  refine lv_aload_n hx hb dX10_notes_4 rfl (lv_at hl 0 rfl) ?_
  refine va_get (D := G.1) (ci := 10) (v := .int (f0 14)) (C := RX10) (T := TX10) (N := 52) hx hb hts inlX10 hown hK hPD.1 0 rfl rfl 14 (by decide) (hts _ gw_568) (fun _ h9 => h9) rfl dX10_notes_5 ?_
  refine lv_ldc (v := 1048576) hx hb hown (hts _ gw_569) dX10_notes_8 ?_
  refine lv_iload_n hx hb dX10_notes_10 rfl (lv_at hl 1 rfl) ?_
  refine lv_imul hx hb dX10_notes_11 ?_
  refine lv_iload_n hx hb dX10_notes_12 rfl (lv_at hl 2 rfl) ?_
  refine lv_iadd hx hb dX10_notes_13 ?_
  obtain ⟨hi_1, h⟩ := ob h
  refine va_iast hx hb hK hPD.1 hPD.2 hS 8 1 rfl rfl hi_1 dX10_notes_14 (fun H locs hP hD hS => ?_)
  obtain ⟨A0_2, eA0_2, h⟩ := lvl h
  have hPD : WD G DA (wX10 G h0 a0 f0 A0_2) H := by rw [eA0_2]; exact ⟨hP, hD⟩
  clear eA0_2 hP hD
  refine lv_aload_n hx hb dX10_notes_15 rfl (lv_at hl 0 rfl) ?_
  refine lv_aload_n hx hb dX10_notes_16 rfl (lv_at hl 0 rfl) ?_
  refine va_get (D := G.1) (ci := 10) (v := .int (f0 14)) (C := RX10) (T := TX10) (N := 52) hx hb hts inlX10 hown hK hPD.1 0 rfl rfl 14 (by decide) (hts _ gw_568) (fun _ h9 => h9) rfl dX10_notes_17 ?_
  refine lv_iconst (v := 1) hx hb dX10_notes_20 (by decide) ?_
  refine lv_iadd hx hb dX10_notes_21 ?_
  refine va_put (D := G.1) (ci := 10) (v := .int ((f0 14) + 1)) (ty := .int) (C := RX10) (T := TX10) (N := 52) hx hb hts inlX10 tyX10 tyX10_ok nmX10 hown hK hPD.1 hPD.2 hS 0 rfl rfl 14 (by decide) (hts _ gw_568) (fun _ h9 => h9) rfl (by decide +kernel) rfl rfl (Nat.le_of_ble_eq_true rfl) dX10_notes_22 (fun H locs hP hD hS => ?_)
  obtain ⟨f0_3, ef0_3, h⟩ := lvl h
  have hPD : WD G DA (wX10 G h0 a0 f0_3 A0_2) H := by rw [ef0_3]; exact ⟨hP, hD⟩
  clear ef0_3 hP hD
  obtain rfl := Option.some.inj h
  exact eV C0 hPD.1 hPD.2 hS dX10_notes_25
abbrev rmX10_opens : Room := { frames := 1, cells := 0, slots := 0, locals := 22 }
set_option maxRecDepth 100000 in
set_option maxHeartbeats 4000000 in
theorem kt_X10_opens (l : Launch) (G : Gp) (h0 : Nat) (a0 : Nat → Nat) (f0 : Nat → Int32) (A0 : Nat → Nat → Int32) (p1 : Int32) : ∀ {r : Int32 × (Nat → Nat → Int32) × (Nat → Int32)}, f10_opens f0 A0 p1 = some r → CtrI l yX10_opens cX10_opens 2 (some .boolean) rmX10_opens G [.ref h0, .int p1] (wX10 G h0 a0 f0 A0) r.1 (wX10 G h0 a0 r.2.2 r.2.1) := by
  intro res h
  refine ctrI_of (cc := cX10_opens) (maxL := 2) (ret := (some .boolean)) (by decide +kernel) rfl (Nat.le_of_ble_eq_true rfl) (fun p e s m below meth c DA C0 hP hD ls hl => ?_)
  have hPD : WD G DA (wX10 G h0 a0 f0 A0) s.heap := ⟨hP, hD⟩
  have hS : va_S DA s.heap s.heap [] := va_S.rf
  have hl : lv_has ls 2 [(0, .ref h0), (1, .int p1)] := hl
  obtain ⟨hx, hb, hml, hown, hts⟩ := C0.1
  have hK := C0.2.2.2.1
  unfold f10_opens at h
  refine lv_aload_n hx hb dX10_opens_0 rfl (lv_at hl 0 rfl) ?_
  refine va_get (D := G.1) (ci := 10) (v := .int (f0 13)) (C := RX10) (T := TX10) (N := 52) hx hb hts inlX10 hown hK hPD.1 0 rfl rfl 13 (by decide) (hts _ gw_570) (fun _ h9 => h9) rfl dX10_opens_1 ?_
  refine lv_bipush (v := 6) hx hb dX10_opens_4 (by decide) ?_
  refine lv_icmp_ne (tgt := 19) hx hb dX10_opens_6 (by decide) (fun cc1 => ?_) (fun cc1 => ?_)
  · have h := (if_neg cc1).symm.trans h
    refine lv_aload_n hx hb dX10_opens_19 rfl (lv_at hl 0 rfl) ?_
    refine lv_aload_n hx hb dX10_opens_20 rfl (lv_at hl 0 rfl) ?_
    refine va_get (D := G.1) (ci := 10) (v := .int (f0 13)) (C := RX10) (T := TX10) (N := 52) hx hb hts inlX10 hown hK hPD.1 0 rfl rfl 13 (by decide) (hts _ gw_570) (fun _ h9 => h9) rfl dX10_opens_21 ?_
    refine lv_iconst (v := 1) hx hb dX10_opens_24 (by decide) ?_
    refine lv_iadd hx hb dX10_opens_25 ?_
    refine va_put (D := G.1) (ci := 10) (v := .int ((f0 13) + 1)) (ty := .int) (C := RX10) (T := TX10) (N := 52) hx hb hts inlX10 tyX10 tyX10_ok nmX10 hown hK hPD.1 hPD.2 hS 0 rfl rfl 13 (by decide) (hts _ gw_570) (fun _ h9 => h9) rfl (by decide +kernel) rfl rfl (Nat.le_of_ble_eq_true rfl) dX10_opens_26 (fun H locs hP hD hS => ?_)
    obtain ⟨f0_1, ef0_1, h⟩ := lvl h
    have hPD : WD G DA (wX10 G h0 a0 f0_1 A0) H := by rw [ef0_1]; exact ⟨hP, hD⟩
    clear ef0_1 hP hD
    refine lv_aload_n hx hb dX10_opens_29 rfl (lv_at hl 0 rfl) ?_
    refine va_get (D := G.1) (ci := 10) (v := .ref (a0 19)) (C := RX10) (T := TX10) (N := 52) hx hb hts inlX10 hown hK hPD.1 0 rfl rfl 19 (by decide) (hts _ gw_571) (fun _ h9 => h9) rfl dX10_opens_30 ?_
    refine lv_aload_n hx hb dX10_opens_33 rfl (lv_at hl 0 rfl) ?_
    refine va_get (D := G.1) (ci := 10) (v := .int (f0_1 15)) (C := RX10) (T := TX10) (N := 52) hx hb hts inlX10 hown hK hPD.1 0 rfl rfl 15 (by decide) (hts _ gw_572) (fun _ h9 => h9) rfl dX10_opens_34 ?_
    refine lv_ldc (v := 1048576) hx hb hown (hts _ gw_569) dX10_opens_37 ?_
    refine lv_iload_n hx hb dX10_opens_39 rfl (lv_at hl 1 rfl) ?_
    refine lv_imul hx hb dX10_opens_40 ?_
    obtain ⟨hi_2, h⟩ := ob h
    refine va_iast hx hb hK hPD.1 hPD.2 hS 9 1 rfl rfl hi_2 dX10_opens_41 (fun H locs hP hD hS => ?_)
    obtain ⟨A0_3, eA0_3, h⟩ := lvl h
    have hPD : WD G DA (wX10 G h0 a0 f0_1 A0_3) H := by rw [eA0_3]; exact ⟨hP, hD⟩
    clear eA0_3 hP hD
    refine lv_aload_n hx hb dX10_opens_42 rfl (lv_at hl 0 rfl) ?_
    refine lv_aload_n hx hb dX10_opens_43 rfl (lv_at hl 0 rfl) ?_
    refine va_get (D := G.1) (ci := 10) (v := .int (f0_1 15)) (C := RX10) (T := TX10) (N := 52) hx hb hts inlX10 hown hK hPD.1 0 rfl rfl 15 (by decide) (hts _ gw_572) (fun _ h9 => h9) rfl dX10_opens_44 ?_
    refine lv_iconst (v := 1) hx hb dX10_opens_47 (by decide) ?_
    refine lv_iadd hx hb dX10_opens_48 ?_
    refine va_put (D := G.1) (ci := 10) (v := .int ((f0_1 15) + 1)) (ty := .int) (C := RX10) (T := TX10) (N := 52) hx hb hts inlX10 tyX10 tyX10_ok nmX10 hown hK hPD.1 hPD.2 hS 0 rfl rfl 15 (by decide) (hts _ gw_572) (fun _ h9 => h9) rfl (by decide +kernel) rfl rfl (Nat.le_of_ble_eq_true rfl) dX10_opens_49 (fun H locs hP hD hS => ?_)
    obtain ⟨f0_4, ef0_4, h⟩ := lvl h
    have hPD : WD G DA (wX10 G h0 a0 f0_4 A0_3) H := by rw [ef0_4]; exact ⟨hP, hD⟩
    clear ef0_4 hP hD
    refine lv_aload_n hx hb dX10_opens_52 rfl (lv_at hl 0 rfl) ?_
    refine lv_aload_n hx hb dX10_opens_53 rfl (lv_at hl 0 rfl) ?_
    refine va_get (D := G.1) (ci := 10) (v := .int (f0_4 9)) (C := RX10) (T := TX10) (N := 52) hx hb hts inlX10 hown hK hPD.1 0 rfl rfl 9 (by decide) (hts _ gw_551) (fun _ h9 => h9) rfl dX10_opens_54 ?_
    refine lv_iconst (v := 1) hx hb dX10_opens_57 (by decide) ?_
    refine lv_iadd hx hb dX10_opens_58 ?_
    refine va_put (D := G.1) (ci := 10) (v := .int ((f0_4 9) + 1)) (ty := .int) (C := RX10) (T := TX10) (N := 52) hx hb hts inlX10 tyX10 tyX10_ok nmX10 hown hK hPD.1 hPD.2 hS 0 rfl rfl 9 (by decide) (hts _ gw_551) (fun _ h9 => h9) rfl (by decide +kernel) rfl rfl (Nat.le_of_ble_eq_true rfl) dX10_opens_59 (fun H locs hP hD hS => ?_)
    obtain ⟨f0_5, ef0_5, h⟩ := lvl h
    have hPD : WD G DA (wX10 G h0 a0 f0_5 A0_3) H := by rw [ef0_5]; exact ⟨hP, hD⟩
    clear ef0_5 hP hD
    refine lv_iconst (v := 1) hx hb dX10_opens_62 (by decide) ?_
    obtain rfl := Option.some.inj h
    exact eZ C0 hPD.1 hPD.2 hS rfl rfl dX10_opens_63
  · have h := (if_pos cc1).symm.trans h
    refine lv_aload_n hx hb dX10_opens_9 rfl (lv_at hl 0 rfl) ?_
    refine lv_iconst (v := 5) hx hb dX10_opens_10 (by decide) ?_
    refine lv_aload_n hx hb dX10_opens_11 rfl (lv_at hl 0 rfl) ?_
    refine va_get (D := G.1) (ci := 10) (v := .int (f0 9)) (C := RX10) (T := TX10) (N := 52) hx hb hts inlX10 hown hK hPD.1 0 rfl rfl 9 (by decide) (hts _ gw_551) (fun _ h9 => h9) rfl dX10_opens_12 ?_
    obtain ⟨q_6, hq_6, h⟩ := ob2 h
    refine kVI (As := [.int 5, .int (f0 9)]) (rest := []) C0 (kt_X10_wrongAt l G h0 a0 f0 A0 5 (f0 9) hq_6) gi_V_X10_151_X10_wrongAt (n := 2) rfl (by decide +kernel) rfl ⟨rfl, rfl, Nat.le_of_ble_eq_true rfl, Nat.le_of_ble_eq_true rfl⟩ hPD hS 0 10 rfl rfl rfl [0, 1, 2, 3, 4, 5, 6, 7, 8, 9, 10, 11, 12, 13, 14, 15, 16, 17, 18, 19, 20, 21, 22, 23, 24, 25, 26, 27, 28, 29, 30, 31, 32, 33] [] [0, 1, 2, 3, 4, 5, 6, 7, 8, 9, 10, 11, 12, 13, 14, 15, 16, 17, 18, 19, 20, 21, 22, 23, 24, 25, 26, 27, 28, 29, 30, 31, 32, 33] (wr := ([] : va_W)) (wN := (wX10 G h0 a0 q_6.2 A0)) rfl rfl rfl rfl rfl hl.1 (Nat.le_of_ble_eq_true rfl) dX10_opens_15 (fun H locs hPD hS => ?_)
    obtain ⟨hz, h⟩ := ob h
    obtain rfl := Option.some.inj h
    exact eZ C0 hPD.1 hPD.2 hS rfl (nbool (Classical.not_not.mp hz)) dX10_opens_18
end WALK
