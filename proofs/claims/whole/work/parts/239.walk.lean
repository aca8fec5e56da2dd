section WALK
variable {p : Program} {l : Launch} {e : Env} {s : State} {m : MethodId} {args : Array Value} {below : List Frame} {meth : Method} {c : Code} {G : Gp} {DA : Nat → Prop}
set_option maxRecDepth 100000 in
set_option maxHeartbeats 4000000 in
theorem ww_f10_hoursGo_l12  (C0 : Cx cX10_hoursGo 3 none RX10 p s m args meth c G DA) {h0 : Nat} {a0 : Nat → Nat} {p1 : Int32}   {res : (Nat → Nat → Int32) × (Nat → Int32)}  : ∀ (n : Nat) (A0 : Nat → Nat → Int32) (f0 : Nat → Int32) (l2 : Int32), f10_hoursGo_l12 p1  n A0 f0 l2 = some res → ∀ (H : Heap) (locs : List Loc) (ls : Array Slot), WD G DA (wX10 G h0 a0 f0 A0) H → va_S DA s.heap H locs → lv_has ls 3 [(0, .ref h0), (1, .int p1), (2, .int l2)] → W p l e rmX10_hoursGo s m args below meth c H locs 0 0 (MQ below (QV G DA (wX10 G h0 a0 res.2 res.1)) args s 0 0 DA) (F0 m 12 ls []) := by
  intro n
  induction n with
  | zero => intro A0 f0 l2 h; cases h
  | succ n ih => intro A0 f0 l2 h; exact ww_f10_hoursGo_b12 C0  ih A0 f0 l2 h
set_option maxRecDepth 100000 in
set_option maxHeartbeats 4000000 in
theorem kt_X10_hoursGo (l : Launch) (G : Gp) (h0 : Nat) (a0 : Nat → Nat) (f0 : Nat → Int32) (A0 : Nat → Nat → Int32) (p1 : Int32) : ∀ {r : (Nat → Nat → Int32) × (Nat → Int32)}, f10_hoursGo f0 A0 p1 = some r → CtrV l yX10_hoursGo cX10_hoursGo 3 none rmX10_hoursGo G [.ref h0, .int p1] (wX10 G h0 a0 f0 A0) (wX10 G h0 a0 r.2 r.1) := by
  intro res h
  refine ctrV_of (cc := cX10_hoursGo) (maxL := 3) (ret := none) (by decide +kernel) rfl (Nat.le_of_ble_eq_true rfl) (fun p e s m below meth c DA C0 hP hD ls hl => ?_)
  have hPD : WD G DA (wX10 G h0 a0 f0 A0) s.heap := ⟨hP, hD⟩
  have hS : va_S DA s.heap s.heap [] := va_S.rf
  have hl : lv_has ls 3 [(0, .ref h0), (1, .int p1)] := hl
  obtain ⟨hx, hb, hml, hown, hts⟩ := C0.1
  have hK := C0.2.2.2.1
  unfold f10_hoursGo at h
  refine lv_aload_n hx hb dX10_hoursGo_0 rfl (lv_at hl 0 rfl) ?_
  refine lv_iconst (v := 0) hx hb dX10_hoursGo_1 (by decide) ?_
  refine va_put (D := G.1) (ci := 10) (v := .int 0) (ty := .int) (C := RX10) (T := TX10) (N := 52) hx hb hts inlX10 tyX10 tyX10_ok nmX10 hown hK hPD.1 hPD.2 hS 0 rfl rfl 41 (by decide) (hts _ gw_740) (fun _ h9 => h9) rfl (by decide +kernel) rfl rfl (Nat.le_of_ble_eq_true rfl) dX10_hoursGo_2 (fun H locs hP hD hS => ?_)
  obtain ⟨f0_1, ef0_1, h⟩ := lvl h
  have hPD : WD G DA (wX10 G h0 a0 f0_1 A0) H := by rw [ef0_1]; exact ⟨hP, hD⟩
  clear ef0_1 hP hD
  refine lv_aload_n hx hb dX10_hoursGo_5 rfl (lv_at hl 0 rfl) ?_
  refine lv_iconst (v := 0) hx hb dX10_hoursGo_6 (by decide) ?_
  refine va_put (D := G.1) (ci := 10) (v := .int 0) (ty := .int) (C := RX10) (T := TX10) (N := 52) hx hb hts inlX10 tyX10 tyX10_ok nmX10 hown hK hPD.1 hPD.2 hS 0 rfl rfl 42 (by decide) (hts _ gw_734) (fun _ h9 => h9) rfl (by decide +kernel) rfl rfl (Nat.le_of_ble_eq_true rfl) dX10_hoursGo_7 (fun H locs hP hD hS => ?_)
  obtain ⟨f0_2, ef0_2, h⟩ := lvl h
  have hPD : WD G DA (wX10 G h0 a0 f0_2 A0) H := by rw [ef0_2]; exact ⟨hP, hD⟩
  clear ef0_2 hP hD
  refine lv_iconst (v := 0) hx hb dX10_hoursGo_10 (by decide) ?_
  refine lv_istore_n (lv' := [(2, .int 0), (0, .ref h0), (1, .int p1)]) hx hb dX10_hoursGo_11 rfl hl (by decide) rfl (fun ls hl => ?_)
  exact ww_f10_hoursGo_l12 C0 NF A0 f0_2 0 h _ _ _ hPD hS (lv_sub hl [1, 2, 0] rfl)
abbrev rmX10_hours : Room := { frames := 9, cells := 0, slots := 0, locals := 199 }
set_option maxRecDepth 100000 in
set_option maxHeartbeats 4000000 in
theorem kt_X10_hours (l : Launch) (G : Gp) (h0 : Nat) (a0 : Nat → Nat) (f0 : Nat → Int32) (A0 : Nat → Nat → Int32) (p1 : Int32) : ∀ {r : Int32 × (Nat → Nat → Int32) × (Nat → Int32)}, f10_hours f0 A0 p1 = some r → CtrI l yX10_hours cX10_hours 2 (some .int) rmX10_hours G [.ref h0, .int p1] (wX10 G h0 a0 f0 A0) r.1 (wX10 G h0 a0 r.2.2 r.2.1) := by
  intro res h
  refine ctrI_of (cc := cX10_hours) (maxL := 2) (ret := (some .int)) (by decide +kernel) rfl (Nat.le_of_ble_eq_true rfl) (fun p e s m below meth c DA C0 hP hD ls hl => ?_)
  have hPD : WD G DA (wX10 G h0 a0 f0 A0) s.heap := ⟨hP, hD⟩
  have hS : va_S DA s.heap s.heap [] := va_S.rf
  have hl : lv_has ls 2 [(0, .ref h0), (1, .int p1)] := hl
  obtain ⟨hx, hb, hml, hown, hts⟩ := C0.1
  have hK := C0.2.2.2.1
  unfold f10_hours at h
  refine lv_iload_n hx hb dX10_hours_0 rfl (lv_at hl 1 rfl) ?_
  refine lv_iconst (v := 1) hx hb dX10_hours_1 (by decide) ?_
  refine lv_sipush (v := 240) hx hb dX10_hours_2 (by decide) ?_
  refine kSI (As := [.int p1, .int 1, .int 240]) (rest := []) C0 (kt_X10_in l G  p1 1 240) gi_S_X10_112_X10_in (n := 3) rfl (by decide +kernel) ⟨rfl, rfl, Nat.le_of_ble_eq_true rfl, Nat.le_of_ble_eq_true rfl⟩ hPD hS [] [0, 1, 2, 3, 4, 5, 6, 7, 8, 9, 10, 11, 12, 13, 14, 15, 16, 17, 18, 19, 20, 21, 22, 23, 24, 25, 26, 27, 28, 29, 30, 31, 32, 33] [0, 1, 2, 3, 4, 5, 6, 7, 8, 9, 10, 11, 12, 13, 14, 15, 16, 17, 18, 19, 20, 21, 22, 23, 24, 25, 26, 27, 28, 29, 30, 31, 32, 33] (wr := (wX10 G h0 a0 f0 A0)) (wN := (wX10 G h0 a0 f0 A0)) rfl rfl rfl rfl rfl hl.1 (Nat.le_of_ble_eq_true rfl) dX10_hours_5 (fun H locs hPD hS => ?_)
  refine lv_if_ne (tgt := 13) hx hb dX10_hours_8 (by decide) (fun cc1 => ?_) (fun cc1 => ?_)
  · have h := (if_neg cc1).symm.trans h
    refine lv_aload_n hx hb dX10_hours_13 rfl (lv_at hl 0 rfl) ?_
    refine lv_iload_n hx hb dX10_hours_14 rfl (lv_at hl 1 rfl) ?_
    obtain ⟨q_1, hq_1, h⟩ := ob2 h
    refine kVV (As := [.int p1]) (rest := []) C0 (kt_X10_hoursGo l G h0 a0 f0 A0 p1 hq_1) gi_V_X10_326_X10_hoursGo (n := 1) rfl (by decide +kernel) rfl ⟨rfl, rfl, Nat.le_of_ble_eq_true rfl, Nat.le_of_ble_eq_true rfl⟩ hPD hS 0 10 rfl rfl rfl [0, 1, 2, 3, 4, 5, 6, 7, 8, 9, 10, 11, 12, 13, 14, 15, 16, 17, 18, 19, 20, 21, 22, 23, 24, 25, 26, 27, 28, 29, 30, 31, 32, 33] [] [0, 1, 2, 3, 4, 5, 6, 7, 8, 9, 10, 11, 12, 13, 14, 15, 16, 17, 18, 19, 20, 21, 22, 23, 24, 25, 26, 27, 28, 29, 30, 31, 32, 33] (wr := ([] : va_W)) (wN := (wX10 G h0 a0 q_1.2 q_1.1)) rfl rfl rfl rfl rfl hl.1 (Nat.le_of_ble_eq_true rfl) dX10_hours_15 (fun H locs hPD hS => ?_)
    refine lv_aload_n hx hb dX10_hours_18 rfl (lv_at hl 0 rfl) ?_
    refine va_get (D := G.1) (ci := 10) (v := .int (q_1.2 41)) (C := RX10) (T := TX10) (N := 52) hx hb hts inlX10 hown hK hPD.1 0 rfl rfl 41 (by decide) (hts _ gw_740) (fun _ h9 => h9) rfl dX10_hours_19 ?_
    obtain rfl := Option.some.inj h
    exact eI C0 hPD.1 hPD.2 hS rfl dX10_hours_22
  · have h := (if_pos cc1).symm.trans h
    refine lv_iconst (v := (-1)) hx hb dX10_hours_11 (by decide) ?_
    obtain rfl := Option.some.inj h
    exact eI C0 hPD.1 hPD.2 hS rfl dX10_hours_12
abbrev rmX10_canTry : Room := { frames := 2, cells := 0, slots := 0, locals := 43 }
set_option maxRecDepth 100000 in
set_option maxHeartbeats 4000000 in
theorem kt_X10_canTry (l : Launch) (G : Gp) (h0 : Nat) (a0 : Nat → Nat) (f0 : Nat → Int32) (A0 : Nat → Nat → Int32) (p1 : Int32) : ∀ {r : Int32}, f10_canTry f0 A0 p1 = some r → CtrI l yX10_canTry cX10_canTry 2 (some .boolean) rmX10_canTry G [.ref h0, .int p1] (wX10 G h0 a0 f0 A0) r (wX10 G h0 a0 f0 A0) := by
  intro res h
  refine ctrI_of (cc := cX10_canTry) (maxL := 2) (ret := (some .boolean)) (by decide +kernel) rfl (Nat.le_of_ble_eq_true rfl) (fun p e s m below meth c DA C0 hP hD ls hl => ?_)
  have hPD : WD G DA (wX10 G h0 a0 f0 A0) s.heap := ⟨hP, hD⟩
  have hS : va_S DA s.heap s.heap [] := va_S.rf
  have hl : lv_has ls 2 [(0, .ref h0), (1, .int p1)] := hl
  obtain ⟨hx, hb, hml, hown, hts⟩ := C0.1
  have hK := C0.2.2.2.1
  unfold f10_canTry at h
  refine lv_iload_n hx hb dX10_canTry_0 rfl (lv_at hl 1 rfl) ?_
  refine lv_iconst (v := 0) hx hb dX10_canTry_1 (by decide) ?_
  refine lv_iconst (v := 2) hx hb dX10_canTry_2 (by decide) ?_
  refine kSI (As := [.int p1, .int 0, .int 2]) (rest := []) C0 (kt_X10_in l G  p1 0 2) gi_S_X10_112_X10_in (n := 3) rfl (by decide +kernel) ⟨rfl, rfl, Nat.le_of_ble_eq_true rfl, Nat.le_of_ble_eq_true rfl⟩ hPD hS [] [0, 1, 2, 3, 4, 5, 6, 7, 8, 9, 10, 11, 12, 13, 14, 15, 16, 17, 18, 19, 20, 21, 22, 23, 24, 25, 26, 27, 28, 29, 30, 31, 32, 33] [0, 1, 2, 3, 4, 5, 6, 7, 8, 9, 10, 11, 12, 13, 14, 15, 16, 17, 18, 19, 20, 21, 22, 23, 24, 25, 26, 27, 28, 29, 30, 31, 32, 33] (wr := (wX10 G h0 a0 f0 A0)) (wN := (wX10 G h0 a0 f0 A0)) rfl rfl rfl rfl rfl hl.1 (Nat.le_of_ble_eq_true rfl) dX10_canTry_3 (fun H locs hPD hS => ?_)
  refine lv_if_ne (tgt := 42) hx hb dX10_canTry_6 (by decide) (fun cc1 => ?_) (fun cc1 => ?_)
  · have h := (if_neg cc1).symm.trans h
    refine lv_iconst (v := 1) hx hb dX10_canTry_42 (by decide) ?_
    refine lv_goto (tgt := 47) hx hb dX10_canTry_43 (by decide) ?_
    obtain rfl := Option.some.inj h
    exact eZ C0 hPD.1 hPD.2 hS rfl rfl dX10_canTry_47
  · have h := (if_pos cc1).symm.trans h
    refine lv_aload_n hx hb dX10_canTry_9 rfl (lv_at hl 0 rfl) ?_
    refine lv_iload_n hx hb dX10_canTry_10 rfl (lv_at hl 1 rfl) ?_
    refine lv_bipush (v := 10) hx hb dX10_canTry_11 (by decide) ?_
    refine lv_isub hx hb dX10_canTry_13 ?_
    obtain ⟨q_1, hq_1, h⟩ := ob2 h
    refine kVI (As := [.int (p1 - 10)]) (rest := []) C0 (kt_X10_isMan l G h0 a0 f0 A0 (p1 - 10) hq_1) gi_V_X10_124_X10_isMan (n := 1) rfl (by decide +kernel) rfl ⟨rfl, rfl, Nat.le_of_ble_eq_true rfl, Nat.le_of_ble_eq_true rfl⟩ hPD hS 0 10 rfl rfl rfl [0, 1, 2, 3, 4, 5, 6, 7, 8, 9, 10, 11, 12, 13, 14, 15, 16, 17, 18, 19, 20, 21, 22, 23, 24, 25, 26, 27, 28, 29, 30, 31, 32, 33] [] [0, 1, 2, 3, 4, 5, 6, 7, 8, 9, 10, 11, 12, 13, 14, 15, 16, 17, 18, 19, 20, 21, 22, 23, 24, 25, 26, 27, 28, 29, 30, 31, 32, 33] (wr := ([] : va_W)) (wN := (wX10 G h0 a0 f0 A0)) rfl rfl rfl rfl rfl hl.1 (Nat.le_of_ble_eq_true rfl) dX10_canTry_14 (fun H locs hPD hS => ?_)
    refine lv_if_ne (tgt := 42) hx hb dX10_canTry_17 (by decide) (fun cc1 => ?_) (fun cc1 => ?_)
    · have h := (if_neg cc1).symm.trans h
      refine lv_iconst (v := 1) hx hb dX10_canTry_42 (by decide) ?_
      refine lv_goto (tgt := 47) hx hb dX10_canTry_43 (by decide) ?_
      obtain rfl := Option.some.inj h
      exact eZ C0 hPD.1 hPD.2 hS rfl rfl dX10_canTry_47
    · have h := (if_pos cc1).symm.trans h
      refine lv_aload_n hx hb dX10_canTry_20 rfl (lv_at hl 0 rfl) ?_
      refine lv_iload_n hx hb dX10_canTry_21 rfl (lv_at hl 1 rfl) ?_
      refine lv_bipush (v := 20) hx hb dX10_canTry_22 (by decide) ?_
      refine lv_isub hx hb dX10_canTry_24 ?_
      obtain ⟨q_2, hq_2, h⟩ := ob2 h
      refine kVI (As := [.int (p1 - 20)]) (rest := []) C0 (kt_X10_isMan l G h0 a0 f0 A0 (p1 - 20) hq_2) gi_V_X10_124_X10_isMan (n := 1) rfl (by decide +kernel) rfl ⟨rfl, rfl, Nat.le_of_ble_eq_true rfl, Nat.le_of_ble_eq_true rfl⟩ hPD hS 0 10 rfl rfl rfl [0, 1, 2, 3, 4, 5, 6, 7, 8, 9, 10, 11, 12, 13, 14, 15, 16, 17, 18, 19, 20, 21, 22, 23, 24, 25, 26, 27, 28, 29, 30, 31, 32, 33] [] [0, 1, 2, 3, 4, 5, 6, 7, 8, 9, 10, 11, 12, 13, 14, 15, 16, 17, 18, 19, 20, 21, 22, 23, 24, 25, 26, 27, 28, 29, 30, 31, 32, 33] (wr := ([] : va_W)) (wN := (wX10 G h0 a0 f0 A0)) rfl rfl rfl rfl rfl hl.1 (Nat.le_of_ble_eq_true rfl) dX10_canTry_25 (fun H locs hPD hS => ?_)
      refine lv_if_ne (tgt := 42) hx hb dX10_canTry_28 (by decide) (fun cc1 => ?_) (fun cc1 => ?_)
      · have h := (if_neg cc1).symm.trans h
        refine lv_iconst (v := 1) hx hb dX10_canTry_42 (by decide) ?_
        refine lv_goto (tgt := 47) hx hb dX10_canTry_43 (by decide) ?_
        obtain rfl := Option.some.inj h
        exact eZ C0 hPD.1 hPD.2 hS rfl rfl dX10_canTry_47
      · have h := (if_pos cc1).symm.trans h
        refine lv_aload_n hx hb dX10_canTry_31 rfl (lv_at hl 0 rfl) ?_
        refine lv_iload_n hx hb dX10_canTry_32 rfl (lv_at hl 1 rfl) ?_
        refine lv_bipush (v := 30) hx hb dX10_canTry_33 (by decide) ?_
        refine lv_isub hx hb dX10_canTry_35 ?_
        refine kVI (As := [.int (p1 - 30)]) (rest := []) C0 (kt_X10_isTold l G h0 a0 f0 A0 (p1 - 30)) gi_V_X10_128_X10_isTold (n := 1) rfl (by decide +kernel) rfl ⟨rfl, rfl, Nat.le_of_ble_eq_true rfl, Nat.le_of_ble_eq_true rfl⟩ hPD hS 0 10 rfl rfl rfl [0, 1, 2, 3, 4, 5, 6, 7, 8, 9, 10, 11, 12, 13, 14, 15, 16, 17, 18, 19, 20, 21, 22, 23, 24, 25, 26, 27, 28, 29, 30, 31, 32, 33] [] [0, 1, 2, 3, 4, 5, 6, 7, 8, 9, 10, 11, 12, 13, 14, 15, 16, 17, 18, 19, 20, 21, 22, 23, 24, 25, 26, 27, 28, 29, 30, 31, 32, 33] (wr := ([] : va_W)) (wN := (wX10 G h0 a0 f0 A0)) rfl rfl rfl rfl rfl hl.1 (Nat.le_of_ble_eq_true rfl) dX10_canTry_36 (fun H locs hPD hS => ?_)
        refine lv_if_eq (tgt := 46) hx hb dX10_canTry_39 (by decide) (fun cc1 => ?_) (fun cc1 => ?_)
        · have h := (if_pos cc1).symm.trans h
          refine lv_iconst (v := 0) hx hb dX10_canTry_46 (by decide) ?_
          obtain rfl := Option.some.inj h
          exact eZ C0 hPD.1 hPD.2 hS rfl rfl dX10_canTry_47
        · have h := (if_neg cc1).symm.trans h
          refine lv_iconst (v := 1) hx hb dX10_canTry_42 (by decide) ?_
          refine lv_goto (tgt := 47) hx hb dX10_canTry_43 (by decide) ?_
          obtain rfl := Option.some.inj h
          exact eZ C0 hPD.1 hPD.2 hS rfl rfl dX10_canTry_47
abbrev rmX10_tried : Room := { frames := 9, cells := 0, slots := 0, locals := 199 }
set_option maxRecDepth 100000 in
set_option maxHeartbeats 4000000 in
theorem ww_f10_tried_b154  (C0 : Cx cX10_tried 4 (some .int) RX10 p s m args meth c G DA) {h0 : Nat} {a0 : Nat → Nat} {p1 : Int32} {p2 : Int32}   {res : Int32 × (Nat → Nat → Int32) × (Nat → Int32)}  : ∀ (A0 : Nat → Nat → Int32) (f0 : Nat → Int32) (l3 : Int32), f10_tried_b154 p1 p2  A0 f0 l3 = some res → ∀ (H : Heap) (locs : List Loc) (ls : Array Slot), WD G DA (wX10 G h0 a0 f0 A0) H → va_S DA s.heap H locs → lv_has ls 4 [(0, .ref h0), (1, .int p1), (2, .int p2), (3, .int l3)] → W p l e rmX10_tried s m args below meth c H locs 0 0 (MQ below (QI G DA res.1 (wX10 G h0 a0 res.2.2 res.2.1)) args s 0 0 DA) (F0 m 154 ls []) := by
  obtain ⟨hx, hb, hml, hown, hts⟩ := C0.1
  have hK := C0.2.2.2.1
  intro A0 f0 l3 h _ _ _ hPD hS hl
  unfold f10_tried_b154 at h
  refine lv_aload_n hx hb dX10_tried_154 rfl (lv_at hl 0 rfl) ?_
  refine va_get (D := G.1) (ci := 10) (v := .ref (a0 1)) (C := RX10) (T := TX10) (N := 52) hx hb hts inlX10 hown hK hPD.1 0 rfl rfl 1 (by decide) (hts _ gw_716) (fun _ h9 => h9) rfl dX10_tried_155 ?_
  refine lv_aload_n hx hb dX10_tried_158 rfl (lv_at hl 0 rfl) ?_
  refine va_get (D := G.1) (ci := 10) (v := .ref (a0 0)) (C := RX10) (T := TX10) (N := 52) hx hb hts inlX10 hown hK hPD.1 0 rfl rfl 0 (by decide) (hts _ gw_536) (fun _ h9 => h9) rfl dX10_tried_159 ?_
  obtain ⟨q_5, hq_5, h⟩ := ob2 h
  refine kSV (As := [.ref (a0 1), .ref (a0 0)]) (rest := []) C0 (kt_X10_copies l G (a0 1) (a0 0) 76 (A0 1) 76 (A0 0) (by decide) (by decide) hq_5) gi_S_X10_290_X10_copies (n := 2) rfl (by decide +kernel) ⟨rfl, rfl, Nat.le_of_ble_eq_true rfl, Nat.le_of_ble_eq_true rfl⟩ hPD hS [2, 1] [0, 3, 4, 5, 6, 7, 8, 9, 10, 11, 12, 13, 14, 15, 16, 17, 18, 19, 20, 21, 22, 23, 24, 25, 26, 27, 28, 29, 30, 31, 32, 33] [0, 33, 32, 1, 2, 3, 4, 5, 6, 7, 8, 9, 10, 11, 12, 13, 14, 15, 16, 17, 18, 19, 20, 21, 22, 23, 24, 25, 26, 27, 28, 29, 30, 31] (wr := pick (wX10 G h0 a0 f0 A0) [0, 3, 4, 5, 6, 7, 8, 9, 10, 11, 12, 13, 14, 15, 16, 17, 18, 19, 20, 21, 22, 23, 24, 25, 26, 27, 28, 29, 30, 31, 32, 33]) (wN := (wX10 G h0 a0 f0 (updA A0 0 q_5))) rfl rfl rfl rfl rfl hl.1 (Nat.le_of_ble_eq_true rfl) dX10_tried_162 (fun H locs hPD hS => ?_)
  obtain ⟨A0_6, eA0_6, h⟩ := lvl h
  have hPD : WD G DA (wX10 G h0 a0 f0 A0_6) H := by rw [eA0_6]; exact hPD
  clear eA0_6
  refine lv_iload_n hx hb dX10_tried_165 rfl (lv_at hl 3 rfl) ?_
  obtain rfl := Option.some.inj h
  exact eI C0 hPD.1 hPD.2 hS rfl dX10_tried_166
set_option maxRecDepth 100000 in
set_option maxHeartbeats 4000000 in
theorem kt_X10_tried (l : Launch) (G : Gp) (h0 : Nat) (a0 : Nat → Nat) (f0 : Nat → Int32) (A0 : Nat → Nat → Int32) (p1 : Int32) (p2 : Int32) : ∀ {r : Int32 × (Nat → Nat → Int32) × (Nat → Int32)}, f10_tried f0 A0 p1 p2 = some r → CtrI l yX10_tried cX10_tried 4 (some .int) rmX10_tried G [.ref h0, .int p1, .int p2] (wX10 G h0 a0 f0 A0) r.1 (wX10 G h0 a0 r.2.2 r.2.1) := by
  intro res h
  refine ctrI_of (cc := cX10_tried) (maxL := 4) (ret := (some .int)) (by decide +kernel) rfl (Nat.le_of_ble_eq_true rfl) (fun p e s m below meth c DA C0 hP hD ls hl => ?_)
  have hPD : WD G DA (wX10 G h0 a0 f0 A0) s.heap := ⟨hP, hD⟩
  have hS : va_S DA s.heap s.heap [] := va_S.rf
  have hl : lv_has ls 4 [(0, .ref h0), (1, .int p1), (2, .int p2)] := hl
  obtain ⟨hx, hb, hml, hown, hts⟩ := C0.1
  have hK := C0.2.2.2.1
  unfold f10_tried at h
  refine lv_iload_n hx hb dX10_tried_0 rfl (lv_at hl 1 rfl) ?_
  refine lv_iconst (v := 1) hx hb dX10_tried_1 (by decide) ?_
  refine lv_sipush (v := 240) hx hb dX10_tried_2 (by decide) ?_
  refine kSI (As := [.int p1, .int 1, .int 240]) (rest := []) C0 (kt_X10_in l G  p1 1 240) gi_S_X10_112_X10_in (n := 3) rfl (by decide +kernel) ⟨rfl, rfl, Nat.le_of_ble_eq_true rfl, Nat.le_of_ble_eq_true rfl⟩ hPD hS [] [0, 1, 2, 3, 4, 5, 6, 7, 8, 9, 10, 11, 12, 13, 14, 15, 16, 17, 18, 19, 20, 21, 22, 23, 24, 25, 26, 27, 28, 29, 30, 31, 32, 33] [0, 1, 2, 3, 4, 5, 6, 7, 8, 9, 10, 11, 12, 13, 14, 15, 16, 17, 18, 19, 20, 21, 22, 23, 24, 25, 26, 27, 28, 29, 30, 31, 32, 33] (wr := (wX10 G h0 a0 f0 A0)) (wN := (wX10 G h0 a0 f0 A0)) rfl rfl rfl rfl rfl hl.1 (Nat.le_of_ble_eq_true rfl) dX10_tried_5 (fun H locs hPD hS => ?_)
  refine lv_if_eq (tgt := 19) hx hb dX10_tried_8 (by decide) (fun cc1 => ?_) (fun cc1 => ?_)
  · have h := (if_pos cc1).symm.trans h
    refine lv_iconst (v := (-1)) hx hb dX10_tried_19 (by decide) ?_
    obtain rfl := Option.some.inj h
    exact eI C0 hPD.1 hPD.2 hS rfl dX10_tried_20
  · have h := (if_neg cc1).symm.trans h
    refine lv_aload_n hx hb dX10_tried_11 rfl (lv_at hl 0 rfl) ?_
    refine lv_iload_n hx hb dX10_tried_12 rfl (lv_at hl 2 rfl) ?_
    obtain ⟨q_1, hq_1, h⟩ := ob2 h
    refine kVI (As := [.int p2]) (rest := []) C0 (kt_X10_canTry l G h0 a0 f0 A0 p2 hq_1) gi_V_X10_329_X10_canTry (n := 1) rfl (by decide +kernel) rfl ⟨rfl, rfl, Nat.le_of_ble_eq_true rfl, Nat.le_of_ble_eq_true rfl⟩ hPD hS 0 10 rfl rfl rfl [0, 1, 2, 3, 4, 5, 6, 7, 8, 9, 10, 11, 12, 13, 14, 15, 16, 17, 18, 19, 20, 21, 22, 23, 24, 25, 26, 27, 28, 29, 30, 31, 32, 33] [] [0, 1, 2, 3, 4, 5, 6, 7, 8, 9, 10, 11, 12, 13, 14, 15, 16, 17, 18, 19, 20, 21, 22, 23, 24, 25, 26, 27, 28, 29, 30, 31, 32, 33] (wr := ([] : va_W)) (wN := (wX10 G h0 a0 f0 A0)) rfl rfl rfl rfl rfl hl.1 (Nat.le_of_ble_eq_true rfl) dX10_tried_13 (fun H locs hPD hS => ?_)
    refine lv_if_ne (tgt := 21) hx hb dX10_tried_16 (by decide) (fun cc1 => ?_) (fun cc1 => ?_)
    · have h := (if_neg cc1).symm.trans h
      refine lv_aload_n hx hb dX10_tried_21 rfl (lv_at hl 0 rfl) ?_
      refine va_get (D := G.1) (ci := 10) (v := .ref (a0 0)) (C := RX10) (T := TX10) (N := 52) hx hb hts inlX10 hown hK hPD.1 0 rfl rfl 0 (by decide) (hts _ gw_536) (fun _ h9 => h9) rfl dX10_tried_22 ?_
      refine lv_aload_n hx hb dX10_tried_25 rfl (lv_at hl 0 rfl) ?_
      refine va_get (D := G.1) (ci := 10) (v := .ref (a0 1)) (C := RX10) (T := TX10) (N := 52) hx hb hts inlX10 hown hK hPD.1 0 rfl rfl 1 (by decide) (hts _ gw_716) (fun _ h9 => h9) rfl dX10_tried_26 ?_
      obtain ⟨q_2, hq_2, h⟩ := ob2 h
      refine kSV (As := [.ref (a0 0), .ref (a0 1)]) (rest := []) C0 (kt_X10_copies l G (a0 0) (a0 1) 76 (A0 0) 76 (A0 1) (by decide) (by decide) hq_2) gi_S_X10_290_X10_copies (n := 2) rfl (by decide +kernel) ⟨rfl, rfl, Nat.le_of_ble_eq_true rfl, Nat.le_of_ble_eq_true rfl⟩ hPD hS [1, 2] [0, 3, 4, 5, 6, 7, 8, 9, 10, 11, 12, 13, 14, 15, 16, 17, 18, 19, 20, 21, 22, 23, 24, 25, 26, 27, 28, 29, 30, 31, 32, 33] [0, 32, 33, 1, 2, 3, 4, 5, 6, 7, 8, 9, 10, 11, 12, 13, 14, 15, 16, 17, 18, 19, 20, 21, 22, 23, 24, 25, 26, 27, 28, 29, 30, 31] (wr := pick (wX10 G h0 a0 f0 A0) [0, 3, 4, 5, 6, 7, 8, 9, 10, 11, 12, 13, 14, 15, 16, 17, 18, 19, 20, 21, 22, 23, 24, 25, 26, 27, 28, 29, 30, 31, 32, 33]) (wN := (wX10 G h0 a0 f0 (updA A0 1 q_2))) rfl rfl rfl rfl rfl hl.1 (Nat.le_of_ble_eq_true rfl) dX10_tried_29 (fun H locs hPD hS => ?_)
      obtain ⟨A0_3, eA0_3, h⟩ := lvl h
      have hPD : WD G DA (wX10 G h0 a0 f0 A0_3) H := by rw [eA0_3]; exact hPD
      clear eA0_3
      refine lv_aload_n hx hb dX10_tried_32 rfl (lv_at hl 0 rfl) ?_
      refine lv_iload_n hx hb dX10_tried_33 rfl (lv_at hl 1 rfl) ?_
      obtain ⟨q_4, hq_4, h⟩ := ob2 h
      refine kVV (As := [.int p1]) (rest := []) C0 (kt_X10_hoursGo l G h0 a0 f0 A0_3 p1 hq_4) gi_V_X10_326_X10_hoursGo (n := 1) rfl (by decide +kernel) rfl ⟨rfl, rfl, Nat.le_of_ble_eq_true rfl, Nat.le_of_ble_eq_true rfl⟩ hPD hS 0 10 rfl rfl rfl [0, 1, 2, 3, 4, 5, 6, 7, 8, 9, 10, 11, 12, 13, 14, 15, 16, 17, 18, 19, 20, 21, 22, 23, 24, 25, 26, 27, 28, 29, 30, 31, 32, 33] [] [0, 1, 2, 3, 4, 5, 6, 7, 8, 9, 10, 11, 12, 13, 14, 15, 16, 17, 18, 19, 20, 21, 22, 23, 24, 25, 26, 27, 28, 29, 30, 31, 32, 33] (wr := ([] : va_W)) (wN := (wX10 G h0 a0 q_4.2 q_4.1)) rfl rfl rfl rfl rfl hl.1 (Nat.le_of_ble_eq_true rfl) dX10_tried_34 (fun H locs hPD hS => ?_)
      refine lv_iload_n hx hb dX10_tried_37 rfl (lv_at hl 2 rfl) ?_
      by_cases cc0 : p2 = 0
      · have h := (if_pos cc0).symm.trans h
        refine lv_swT (tgt := 64) (k := 0) hx hb dX10_tried_38 cc0 (by decide) (by decide) ?_
        refine lv_aload_n hx hb dX10_tried_64 rfl (lv_at hl 0 rfl) ?_
        refine va_get (D := G.1) (ci := 10) (v := .int (q_4.2 41)) (C := RX10) (T := TX10) (N := 52) hx hb hts inlX10 hown hK hPD.1 0 rfl rfl 41 (by decide) (hts _ gw_740) (fun _ h9 => h9) rfl dX10_tried_65 ?_
        refine lv_istore_n (lv' := [(3, .int (q_4.2 41)), (0, .ref h0), (1, .int p1), (2, .int p2)]) hx hb dX10_tried_68 rfl hl (by decide) rfl (fun ls hl => ?_)
        refine lv_goto (tgt := 154) hx hb dX10_tried_69 (by decide) ?_
        exact ww_f10_tried_b154 C0 q_4.1 q_4.2 (q_4.2 41) h _ _ _ hPD hS (lv_sub hl [1, 2, 3, 0] rfl)
      have h := (if_neg cc0).symm.trans h
      by_cases cc1 : p2 = 1
      · have h := (if_pos cc1).symm.trans h
        refine lv_swT (tgt := 72) (k := 1) hx hb dX10_tried_38 cc1 (by decide) (by decide) ?_
        refine lv_aload_n hx hb dX10_tried_72 rfl (lv_at hl 0 rfl) ?_
        refine va_get (D := G.1) (ci := 10) (v := .int (q_4.2 42)) (C := RX10) (T := TX10) (N := 52) hx hb hts inlX10 hown hK hPD.1 0 rfl rfl 42 (by decide) (hts _ gw_734) (fun _ h9 => h9) rfl dX10_tried_73 ?_
        refine lv_istore_n (lv' := [(3, .int (q_4.2 42)), (0, .ref h0), (1, .int p1), (2, .int p2)]) hx hb dX10_tried_76 rfl hl (by decide) rfl (fun ls hl => ?_)
        refine lv_goto (tgt := 154) hx hb dX10_tried_77 (by decide) ?_
        exact ww_f10_tried_b154 C0 q_4.1 q_4.2 (q_4.2 42) h _ _ _ hPD hS (lv_sub hl [1, 2, 3, 0] rfl)
      have h := (if_neg cc1).symm.trans h
      by_cases cc2 : p2 = 2
      · have h := (if_pos cc2).symm.trans h
        refine lv_swT (tgt := 80) (k := 2) hx hb dX10_tried_38 cc2 (by decide) (by decide) ?_
        refine lv_aload_n hx hb dX10_tried_80 rfl (lv_at hl 0 rfl) ?_
        refine va_get (D := G.1) (ci := 10) (v := .ref (a0 0)) (C := RX10) (T := TX10) (N := 52) hx hb hts inlX10 hown hK hPD.1 0 rfl rfl 0 (by decide) (hts _ gw_536) (fun _ h9 => h9) rfl dX10_tried_81 ?_
        refine lv_bipush (v := 72) hx hb dX10_tried_84 (by decide) ?_
        refine va_iald hx hb hK hPD.1 1 1 rfl rfl (vin rfl) dX10_tried_86 ?_
        refine lv_aload_n hx hb dX10_tried_87 rfl (lv_at hl 0 rfl) ?_
        refine va_get (D := G.1) (ci := 10) (v := .ref (a0 1)) (C := RX10) (T := TX10) (N := 52) hx hb hts inlX10 hown hK hPD.1 0 rfl rfl 1 (by decide) (hts _ gw_716) (fun _ h9 => h9) rfl dX10_tried_88 ?_
        refine lv_bipush (v := 72) hx hb dX10_tried_91 (by decide) ?_
        refine va_iald hx hb hK hPD.1 2 1 rfl rfl (vin rfl) dX10_tried_93 ?_
        refine lv_isub hx hb dX10_tried_94 ?_
        refine lv_istore_n (lv' := [(3, .int ((gx (q_4.1 0) 72) - (gx (q_4.1 1) 72))), (0, .ref h0), (1, .int p1), (2, .int p2)]) hx hb dX10_tried_95 rfl hl (by decide) rfl (fun ls hl => ?_)
        refine lv_goto (tgt := 154) hx hb dX10_tried_96 (by decide) ?_
        exact ww_f10_tried_b154 C0 q_4.1 q_4.2 ((gx (q_4.1 0) 72) - (gx (q_4.1 1) 72)) h _ _ _ hPD hS (lv_sub hl [1, 2, 3, 0] rfl)
      have h := (if_neg cc2).symm.trans h
      refine lv_swTD (tgt := 99) (ks := [0, 1, 2]) hx hb dX10_tried_38 (by decide) (by decide) ⟨cc0, cc1, cc2, trivial⟩ (by decide) ?_
      refine lv_iload_n hx hb dX10_tried_99 rfl (lv_at hl 2 rfl) ?_
      refine lv_bipush (v := 20) hx hb dX10_tried_100 (by decide) ?_
      refine lv_icmp_ge (tgt := 120) hx hb dX10_tried_102 (by decide) (fun cc1 => ?_) (fun cc1 => ?_)
      · have h := (if_pos cc1).symm.trans h
        refine lv_iload_n hx hb dX10_tried_120 rfl (lv_at hl 2 rfl) ?_
        refine lv_bipush (v := 30) hx hb dX10_tried_121 (by decide) ?_
        refine lv_icmp_ge (tgt := 141) hx hb dX10_tried_123 (by decide) (fun cc1 => ?_) (fun cc1 => ?_)
        · have h := (if_pos cc1).symm.trans h
          refine lv_aload_n hx hb dX10_tried_141 rfl (lv_at hl 0 rfl) ?_
          refine va_get (D := G.1) (ci := 10) (v := .ref (a0 0)) (C := RX10) (T := TX10) (N := 52) hx hb hts inlX10 hown hK hPD.1 0 rfl rfl 0 (by decide) (hts _ gw_536) (fun _ h9 => h9) rfl dX10_tried_142 ?_
          refine lv_bipush (v := 32) hx hb dX10_tried_145 (by decide) ?_
          refine lv_iload_n hx hb dX10_tried_147 rfl (lv_at hl 2 rfl) ?_
          refine lv_iadd hx hb dX10_tried_148 ?_
          refine lv_bipush (v := 30) hx hb dX10_tried_149 (by decide) ?_
          refine lv_isub hx hb dX10_tried_151 ?_
          obtain ⟨hi_7, h⟩ := ob h
          refine va_iald hx hb hK hPD.1 1 1 rfl rfl hi_7 dX10_tried_152 ?_
          refine lv_istore_n (lv' := [(3, .int (gx (q_4.1 0) ((32 + p2) - 30))), (0, .ref h0), (1, .int p1), (2, .int p2)]) hx hb dX10_tried_153 rfl hl (by decide) rfl (fun ls hl => ?_)
          exact ww_f10_tried_b154 C0 q_4.1 q_4.2 (gx (q_4.1 0) ((32 + p2) - 30)) h _ _ _ hPD hS (lv_sub hl [1, 2, 3, 0] rfl)
        · have h := (if_neg cc1).symm.trans h
          refine lv_aload_n hx hb dX10_tried_126 rfl (lv_at hl 0 rfl) ?_
          refine va_get (D := G.1) (ci := 10) (v := .ref (a0 0)) (C := RX10) (T := TX10) (N := 52) hx hb hts inlX10 hown hK hPD.1 0 rfl rfl 0 (by decide) (hts _ gw_536) (fun _ h9 => h9) rfl dX10_tried_127 ?_
          refine lv_bipush (v := 64) hx hb dX10_tried_130 (by decide) ?_
          refine lv_iload_n hx hb dX10_tried_132 rfl (lv_at hl 2 rfl) ?_
          refine lv_iadd hx hb dX10_tried_133 ?_
          refine lv_bipush (v := 20) hx hb dX10_tried_134 (by decide) ?_
          refine lv_isub hx hb dX10_tried_136 ?_
          obtain ⟨hi_8, h⟩ := ob h
          refine va_iald hx hb hK hPD.1 1 1 rfl rfl hi_8 dX10_tried_137 ?_
          refine lv_goto (tgt := 153) hx hb dX10_tried_138 (by decide) ?_
          refine lv_istore_n (lv' := [(3, .int (gx (q_4.1 0) ((64 + p2) - 20))), (0, .ref h0), (1, .int p1), (2, .int p2)]) hx hb dX10_tried_153 rfl hl (by decide) rfl (fun ls hl => ?_)
          exact ww_f10_tried_b154 C0 q_4.1 q_4.2 (gx (q_4.1 0) ((64 + p2) - 20)) h _ _ _ hPD hS (lv_sub hl [1, 2, 3, 0] rfl)
      · have h := (if_neg cc1).symm.trans h
        refine lv_aload_n hx hb dX10_tried_105 rfl (lv_at hl 0 rfl) ?_
        refine va_get (D := G.1) (ci := 10) (v := .ref (a0 0)) (C := RX10) (T := TX10) (N := 52) hx hb hts inlX10 hown hK hPD.1 0 rfl rfl 0 (by decide) (hts _ gw_536) (fun _ h9 => h9) rfl dX10_tried_106 ?_
        refine lv_bipush (v := 56) hx hb dX10_tried_109 (by decide) ?_
        refine lv_iload_n hx hb dX10_tried_111 rfl (lv_at hl 2 rfl) ?_
        refine lv_iadd hx hb dX10_tried_112 ?_
        refine lv_bipush (v := 10) hx hb dX10_tried_113 (by decide) ?_
        refine lv_isub hx hb dX10_tried_115 ?_
        obtain ⟨hi_9, h⟩ := ob h
        refine va_iald hx hb hK hPD.1 1 1 rfl rfl hi_9 dX10_tried_116 ?_
        refine lv_goto (tgt := 153) hx hb dX10_tried_117 (by decide) ?_
        refine lv_istore_n (lv' := [(3, .int (gx (q_4.1 0) ((56 + p2) - 10))), (0, .ref h0), (1, .int p1), (2, .int p2)]) hx hb dX10_tried_153 rfl hl (by decide) rfl (fun ls hl => ?_)
        exact ww_f10_tried_b154 C0 q_4.1 q_4.2 (gx (q_4.1 0) ((56 + p2) - 10)) h _ _ _ hPD hS (lv_sub hl [1, 2, 3, 0] rfl)
    · have h := (if_pos cc1).symm.trans h
      refine lv_iconst (v := (-1)) hx hb dX10_tried_19 (by decide) ?_
      obtain rfl := Option.some.inj h
      exact eI C0 hPD.1 hPD.2 hS rfl dX10_tried_20
abbrev rmX10_placeIs : Room := { frames := 3, cells := 0, slots := 0, locals := 66 }
set_option maxRecDepth 100000 in
set_option maxHeartbeats 4000000 in
theorem kt_X10_placeIs (l : Launch) (G : Gp) (h0 : Nat) (a0 : Nat → Nat) (f0 : Nat → Int32) (A0 : Nat → Nat → Int32) (p1 : Int32) (p2 : Int32) : ∀ {r : Int32}, f10_placeIs f0 A0 p1 p2 = some r → CtrI l yX10_placeIs cX10_placeIs 3 (some .int) rmX10_placeIs G [.ref h0, .int p1, .int p2] (wX10 G h0 a0 f0 A0) r (wX10 G h0 a0 f0 A0) := by
  intro res h
  refine ctrI_of (cc := cX10_placeIs) (maxL := 3) (ret := (some .int)) (by decide +kernel) rfl (Nat.le_of_ble_eq_true rfl) (fun p e s m below meth c DA C0 hP hD ls hl => ?_)
  have hPD : WD G DA (wX10 G h0 a0 f0 A0) s.heap := ⟨hP, hD⟩
  have hS : va_S DA s.heap s.heap [] := va_S.rf
  have hl : lv_has ls 3 [(0, .ref h0), (1, .int p1), (2, .int p2)] := hl
  obtain ⟨hx, hb, hml, hown, hts⟩ := C0.1
  have hK := C0.2.2.2.1
  unfold f10_placeIs at h
  refine lv_aload_n hx hb dX10_placeIs_0 rfl (lv_at hl 0 rfl) ?_
  refine lv_iload_n hx hb dX10_placeIs_1 rfl (lv_at hl 1 rfl) ?_
  refine kVI (As := [.int p1]) (rest := []) C0 (kt_X10_isTold l G h0 a0 f0 A0 p1) gi_V_X10_128_X10_isTold (n := 1) rfl (by decide +kernel) rfl ⟨rfl, rfl, Nat.le_of_ble_eq_true rfl, Nat.le_of_ble_eq_true rfl⟩ hPD hS 0 10 rfl rfl rfl [0, 1, 2, 3, 4, 5, 6, 7, 8, 9, 10, 11, 12, 13, 14, 15, 16, 17, 18, 19, 20, 21, 22, 23, 24, 25, 26, 27, 28, 29, 30, 31, 32, 33] [] [0, 1, 2, 3, 4, 5, 6, 7, 8, 9, 10, 11, 12, 13, 14, 15, 16, 17, 18, 19, 20, 21, 22, 23, 24, 25, 26, 27, 28, 29, 30, 31, 32, 33] (wr := ([] : va_W)) (wN := (wX10 G h0 a0 f0 A0)) rfl rfl rfl rfl rfl hl.1 (Nat.le_of_ble_eq_true rfl) dX10_placeIs_2 (fun H locs hPD hS => ?_)
  refine lv_if_ne (tgt := 10) hx hb dX10_placeIs_5 (by decide) (fun cc1 => ?_) (fun cc1 => ?_)
  · have h := (if_neg cc1).symm.trans h
    refine lv_iload_n hx hb dX10_placeIs_10 rfl (lv_at hl 2 rfl) ?_
    by_cases cc0 : p2 = 0
    · have h := (if_pos cc0).symm.trans h
      refine lv_swT (tgt := 44) (k := 0) hx hb dX10_placeIs_11 cc0 (by decide) (by decide) ?_
      refine lv_aload_n hx hb dX10_placeIs_44 rfl (lv_at hl 0 rfl) ?_
      refine va_get (D := G.1) (ci := 10) (v := .ref (a0 0)) (C := RX10) (T := TX10) (N := 52) hx hb hts inlX10 hown hK hPD.1 0 rfl rfl 0 (by decide) (hts _ gw_536) (fun _ h9 => h9) rfl dX10_placeIs_45 ?_
      refine lv_iconst (v := 0) hx hb dX10_placeIs_48 (by decide) ?_
      refine lv_iload_n hx hb dX10_placeIs_49 rfl (lv_at hl 1 rfl) ?_
      refine lv_iadd hx hb dX10_placeIs_50 ?_
      obtain ⟨hi_1, h⟩ := ob h
      refine va_iald hx hb hK hPD.1 1 1 rfl rfl hi_1 dX10_placeIs_51 ?_
      obtain rfl := Option.some.inj h
      exact eI C0 hPD.1 hPD.2 hS rfl dX10_placeIs_52
    have h := (if_neg cc0).symm.trans h
    by_cases cc1 : p2 = 1
    · have h := (if_pos cc1).symm.trans h
      refine lv_swT (tgt := 53) (k := 1) hx hb dX10_placeIs_11 cc1 (by decide) (by decide) ?_
      refine lv_aload_n hx hb dX10_placeIs_53 rfl (lv_at hl 0 rfl) ?_
      refine va_get (D := G.1) (ci := 10) (v := .ref (a0 0)) (C := RX10) (T := TX10) (N := 52) hx hb hts inlX10 hown hK hPD.1 0 rfl rfl 0 (by decide) (hts _ gw_536) (fun _ h9 => h9) rfl dX10_placeIs_54 ?_
      refine lv_bipush (v := 16) hx hb dX10_placeIs_57 (by decide) ?_
      refine lv_iload_n hx hb dX10_placeIs_59 rfl (lv_at hl 1 rfl) ?_
      refine lv_iadd hx hb dX10_placeIs_60 ?_
      obtain ⟨hi_2, h⟩ := ob h
      refine va_iald hx hb hK hPD.1 1 1 rfl rfl hi_2 dX10_placeIs_61 ?_
      obtain rfl := Option.some.inj h
      exact eI C0 hPD.1 hPD.2 hS rfl dX10_placeIs_62
    have h := (if_neg cc1).symm.trans h
    by_cases cc2 : p2 = 2
    · have h := (if_pos cc2).symm.trans h
      refine lv_swT (tgt := 63) (k := 2) hx hb dX10_placeIs_11 cc2 (by decide) (by decide) ?_
      refine lv_aload_n hx hb dX10_placeIs_63 rfl (lv_at hl 0 rfl) ?_
      refine va_get (D := G.1) (ci := 10) (v := .ref (a0 0)) (C := RX10) (T := TX10) (N := 52) hx hb hts inlX10 hown hK hPD.1 0 rfl rfl 0 (by decide) (hts _ gw_536) (fun _ h9 => h9) rfl dX10_placeIs_64 ?_
      refine lv_bipush (v := 32) hx hb dX10_placeIs_67 (by decide) ?_
      refine lv_iload_n hx hb dX10_placeIs_69 rfl (lv_at hl 1 rfl) ?_
      refine lv_iadd hx hb dX10_placeIs_70 ?_
      obtain ⟨hi_3, h⟩ := ob h
      refine va_iald hx hb hK hPD.1 1 1 rfl rfl hi_3 dX10_placeIs_71 ?_
      obtain rfl := Option.some.inj h
      exact eI C0 hPD.1 hPD.2 hS rfl dX10_placeIs_72
    have h := (if_neg cc2).symm.trans h
    by_cases cc3 : p2 = 3
    · have h := (if_pos cc3).symm.trans h
      refine lv_swT (tgt := 73) (k := 3) hx hb dX10_placeIs_11 cc3 (by decide) (by decide) ?_
      refine lv_aload_n hx hb dX10_placeIs_73 rfl (lv_at hl 0 rfl) ?_
      refine lv_iload_n hx hb dX10_placeIs_74 rfl (lv_at hl 1 rfl) ?_
      obtain ⟨q_4, hq_4, h⟩ := ob2 h
      refine kVI (As := [.int p1]) (rest := []) C0 (kt_X10_menAt l G h0 a0 f0 A0 p1 hq_4) gi_V_X10_241_X10_menAt (n := 1) rfl (by decide +kernel) rfl ⟨rfl, rfl, Nat.le_of_ble_eq_true rfl, Nat.le_of_ble_eq_true rfl⟩ hPD hS 0 10 rfl rfl rfl [0, 1, 2, 3, 4, 5, 6, 7, 8, 9, 10, 11, 12, 13, 14, 15, 16, 17, 18, 19, 20, 21, 22, 23, 24, 25, 26, 27, 28, 29, 30, 31, 32, 33] [] [0, 1, 2, 3, 4, 5, 6, 7, 8, 9, 10, 11, 12, 13, 14, 15, 16, 17, 18, 19, 20, 21, 22, 23, 24, 25, 26, 27, 28, 29, 30, 31, 32, 33] (wr := ([] : va_W)) (wN := (wX10 G h0 a0 f0 A0)) rfl rfl rfl rfl rfl hl.1 (Nat.le_of_ble_eq_true rfl) dX10_placeIs_75 (fun H locs hPD hS => ?_)
      obtain rfl := Option.some.inj h
      exact eI C0 hPD.1 hPD.2 hS rfl dX10_placeIs_78
    have h := (if_neg cc3).symm.trans h
    by_cases cc4 : p2 = 4
    · have h := (if_pos cc4).symm.trans h
      refine lv_swT (tgt := 79) (k := 4) hx hb dX10_placeIs_11 cc4 (by decide) (by decide) ?_
      refine lv_aload_n hx hb dX10_placeIs_79 rfl (lv_at hl 0 rfl) ?_
      refine va_get (D := G.1) (ci := 10) (v := .ref (a0 3)) (C := RX10) (T := TX10) (N := 52) hx hb hts inlX10 hown hK hPD.1 0 rfl rfl 3 (by decide) (hts _ gw_663) (fun _ h9 => h9) rfl dX10_placeIs_80 ?_
      refine lv_iload_n hx hb dX10_placeIs_83 rfl (lv_at hl 1 rfl) ?_
      obtain ⟨hi_5, h⟩ := ob h
      refine va_iald hx hb hK hPD.1 4 1 rfl rfl hi_5 dX10_placeIs_84 ?_
      obtain rfl := Option.some.inj h
      exact eI C0 hPD.1 hPD.2 hS rfl dX10_placeIs_85
    have h := (if_neg cc4).symm.trans h
    refine lv_swTD (tgt := 86) (ks := [0, 1, 2, 3, 4]) hx hb dX10_placeIs_11 (by decide) (by decide) ⟨cc0, cc1, cc2, cc3, cc4, trivial⟩ (by decide) ?_
    refine lv_iconst (v := (-1)) hx hb dX10_placeIs_86 (by decide) ?_
    obtain rfl := Option.some.inj h
    exact eI C0 hPD.1 hPD.2 hS rfl dX10_placeIs_87
  · have h := (if_pos cc1).symm.trans h
    refine lv_iconst (v := (-1)) hx hb dX10_placeIs_8 (by decide) ?_
    obtain rfl := Option.some.inj h
    exact eI C0 hPD.1 hPD.2 hS rfl dX10_placeIs_9
abbrev rmX10_constableIs : Room := { frames := 2, cells := 0, slots := 0, locals := 43 }
set_option maxRecDepth 100000 in
set_option maxHeartbeats 4000000 in
theorem kt_X10_constableIs (l : Launch) (G : Gp) (h0 : Nat) (a0 : Nat → Nat) (f0 : Nat → Int32) (A0 : Nat → Nat → Int32) (p1 : Int32) (p2 : Int32) : ∀ {r : Int32}, f10_constableIs f0 A0 p1 p2 = some r → CtrI l yX10_constableIs cX10_constableIs 3 (some .int) rmX10_constableIs G [.ref h0, .int p1, .int p2] (wX10 G h0 a0 f0 A0) r (wX10 G h0 a0 f0 A0) := by
  intro res h
  refine ctrI_of (cc := cX10_constableIs) (maxL := 3) (ret := (some .int)) (by decide +kernel) rfl (Nat.le_of_ble_eq_true rfl) (fun p e s m below meth c DA C0 hP hD ls hl => ?_)
  have hPD : WD G DA (wX10 G h0 a0 f0 A0) s.heap := ⟨hP, hD⟩
  have hS : va_S DA s.heap s.heap [] := va_S.rf
  have hl : lv_has ls 3 [(0, .ref h0), (1, .int p1), (2, .int p2)] := hl
  obtain ⟨hx, hb, hml, hown, hts⟩ := C0.1
  have hK := C0.2.2.2.1
  unfold f10_constableIs at h
  refine lv_aload_n hx hb dX10_constableIs_0 rfl (lv_at hl 0 rfl) ?_
  refine lv_iload_n hx hb dX10_constableIs_1 rfl (lv_at hl 1 rfl) ?_
  obtain ⟨q_1, hq_1, h⟩ := ob2 h
  refine kVI (As := [.int p1]) (rest := []) C0 (kt_X10_isMan l G h0 a0 f0 A0 p1 hq_1) gi_V_X10_124_X10_isMan (n := 1) rfl (by decide +kernel) rfl ⟨rfl, rfl, Nat.le_of_ble_eq_true rfl, Nat.le_of_ble_eq_true rfl⟩ hPD hS 0 10 rfl rfl rfl [0, 1, 2, 3, 4, 5, 6, 7, 8, 9, 10, 11, 12, 13, 14, 15, 16, 17, 18, 19, 20, 21, 22, 23, 24, 25, 26, 27, 28, 29, 30, 31, 32, 33] [] [0, 1, 2, 3, 4, 5, 6, 7, 8, 9, 10, 11, 12, 13, 14, 15, 16, 17, 18, 19, 20, 21, 22, 23, 24, 25, 26, 27, 28, 29, 30, 31, 32, 33] (wr := ([] : va_W)) (wN := (wX10 G h0 a0 f0 A0)) rfl rfl rfl rfl rfl hl.1 (Nat.le_of_ble_eq_true rfl) dX10_constableIs_2 (fun H locs hPD hS => ?_)
  refine lv_if_ne (tgt := 10) hx hb dX10_constableIs_5 (by decide) (fun cc1 => ?_) (fun cc1 => ?_)
  · have h := (if_neg cc1).symm.trans h
    refine lv_iload_n hx hb dX10_constableIs_10 rfl (lv_at hl 2 rfl) ?_
    refine lv_if_ne (tgt := 26) hx hb dX10_constableIs_11 (by decide) (fun cc1 => ?_) (fun cc1 => ?_)
    · have h := (if_neg cc1).symm.trans h
      refine lv_iload_n hx hb dX10_constableIs_26 rfl (lv_at hl 2 rfl) ?_
      refine lv_iconst (v := 1) hx hb dX10_constableIs_27 (by decide) ?_
      refine lv_icmp_ne (tgt := 43) hx hb dX10_constableIs_28 (by decide) (fun cc1 => ?_) (fun cc1 => ?_)
      · have h := (if_neg cc1).symm.trans h
        refine lv_iload_n hx hb dX10_constableIs_43 rfl (lv_at hl 2 rfl) ?_
        refine lv_iconst (v := 2) hx hb dX10_constableIs_44 (by decide) ?_
        refine lv_icmp_ne (tgt := 57) hx hb dX10_constableIs_45 (by decide) (fun cc1 => ?_) (fun cc1 => ?_)
        · have h := (if_neg cc1).symm.trans h
          refine lv_iconst (v := (-1)) hx hb dX10_constableIs_57 (by decide) ?_
          obtain rfl := Option.some.inj h
          exact eI C0 hPD.1 hPD.2 hS rfl dX10_constableIs_58
        · have h := (if_pos cc1).symm.trans h
          refine lv_aload_n hx hb dX10_constableIs_48 rfl (lv_at hl 0 rfl) ?_
          refine va_get (D := G.1) (ci := 10) (v := .ref (a0 4)) (C := RX10) (T := TX10) (N := 52) hx hb hts inlX10 hown hK hPD.1 0 rfl rfl 4 (by decide) (hts _ gw_695) (fun _ h9 => h9) rfl dX10_constableIs_49 ?_
          refine lv_iload_n hx hb dX10_constableIs_52 rfl (lv_at hl 1 rfl) ?_
          obtain ⟨hi_2, h⟩ := ob h
          refine va_iald hx hb hK hPD.1 5 1 rfl rfl hi_2 dX10_constableIs_53 ?_
          refine lv_goto (tgt := 58) hx hb dX10_constableIs_54 (by decide) ?_
          obtain rfl := Option.some.inj h
          exact eI C0 hPD.1 hPD.2 hS rfl dX10_constableIs_58
      · have h := (if_pos cc1).symm.trans h
        refine lv_aload_n hx hb dX10_constableIs_31 rfl (lv_at hl 0 rfl) ?_
        refine va_get (D := G.1) (ci := 10) (v := .ref (a0 0)) (C := RX10) (T := TX10) (N := 52) hx hb hts inlX10 hown hK hPD.1 0 rfl rfl 0 (by decide) (hts _ gw_536) (fun _ h9 => h9) rfl dX10_constableIs_32 ?_
        refine lv_bipush (v := 64) hx hb dX10_constableIs_35 (by decide) ?_
        refine lv_iload_n hx hb dX10_constableIs_37 rfl (lv_at hl 1 rfl) ?_
        refine lv_iadd hx hb dX10_constableIs_38 ?_
        obtain ⟨hi_3, h⟩ := ob h
        refine va_iald hx hb hK hPD.1 1 1 rfl rfl hi_3 dX10_constableIs_39 ?_
        refine lv_goto (tgt := 58) hx hb dX10_constableIs_40 (by decide) ?_
        obtain rfl := Option.some.inj h
        exact eI C0 hPD.1 hPD.2 hS rfl dX10_constableIs_58
    · have h := (if_pos cc1).symm.trans h
      refine lv_aload_n hx hb dX10_constableIs_14 rfl (lv_at hl 0 rfl) ?_
      refine va_get (D := G.1) (ci := 10) (v := .ref (a0 0)) (C := RX10) (T := TX10) (N := 52) hx hb hts inlX10 hown hK hPD.1 0 rfl rfl 0 (by decide) (hts _ gw_536) (fun _ h9 => h9) rfl dX10_constableIs_15 ?_
      refine lv_bipush (v := 56) hx hb dX10_constableIs_18 (by decide) ?_
      refine lv_iload_n hx hb dX10_constableIs_20 rfl (lv_at hl 1 rfl) ?_
      refine lv_iadd hx hb dX10_constableIs_21 ?_
      obtain ⟨hi_4, h⟩ := ob h
      refine va_iald hx hb hK hPD.1 1 1 rfl rfl hi_4 dX10_constableIs_22 ?_
      refine lv_goto (tgt := 58) hx hb dX10_constableIs_23 (by decide) ?_
      obtain rfl := Option.some.inj h
      exact eI C0 hPD.1 hPD.2 hS rfl dX10_constableIs_58
  · have h := (if_pos cc1).symm.trans h
    refine lv_iconst (v := (-1)) hx hb dX10_constableIs_8 (by decide) ?_
    obtain rfl := Option.some.inj h
    exact eI C0 hPD.1 hPD.2 hS rfl dX10_constableIs_9
end WALK
