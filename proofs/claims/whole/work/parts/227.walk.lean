section WALK
variable {p : Program} {l : Launch} {e : Env} {s : State} {m : MethodId} {args : Array Value} {below : List Frame} {meth : Method} {c : Code} {G : Gp} {DA : Nat → Prop}
set_option maxRecDepth 100000 in
set_option maxHeartbeats 4000000 in
theorem ww_f10_copies_l2  (C0 : Cx cX10_copies 3 none RX10 p s m args meth c G DA) {q0 : Nat} {q1 : Nat} {n0 : Nat} {xs0 : Nat → Int32} {n1 : Nat} (hn0 : n0 < 2147483648) (hn1 : n1 < 2147483648)  {res : (Nat → Int32)}  : ∀ (n : Nat) (xs1 : Nat → Int32) (l2 : Int32), f10_copies_l2 n0 xs0 n1  n xs1 l2 = some res → ∀ (H : Heap) (locs : List Loc) (ls : Array Slot), WD G DA (wI G q0 n0 xs0 ++ (wI G q1 n1 xs1)) H → va_S DA s.heap H locs → lv_has ls 3 [(0, .ref q0), (1, .ref q1), (2, .int l2)] → W p l e rmX10_copies s m args below meth c H locs 0 0 (MQ below (QV G DA (wI G q0 n0 xs0 ++ (wI G q1 n1 res))) args s 0 0 DA) (F0 m 2 ls []) := by
  intro n
  induction n with
  | zero => intro xs1 l2 h; cases h
  | succ n ih => intro xs1 l2 h; exact ww_f10_copies_b2 C0 hn0 hn1  ih xs1 l2 h
set_option maxRecDepth 100000 in
set_option maxHeartbeats 4000000 in
theorem kt_X10_copies (l : Launch) (G : Gp) (q0 : Nat) (q1 : Nat) (n0 : Nat) (xs0 : Nat → Int32) (n1 : Nat) (xs1 : Nat → Int32) (hn0 : n0 < 2147483648) (hn1 : n1 < 2147483648) : ∀ {r : (Nat → Int32)}, f10_copies n0 xs0 n1 xs1 = some r → CtrV l yX10_copies cX10_copies 3 none rmX10_copies G [.ref q0, .ref q1] (wI G q0 n0 xs0 ++ (wI G q1 n1 xs1)) (wI G q0 n0 xs0 ++ (wI G q1 n1 r)) := by
  intro res h
  refine ctrV_of (cc := cX10_copies) (maxL := 3) (ret := none) (by decide +kernel) rfl (Nat.le_of_ble_eq_true rfl) (fun p e s m below meth c DA C0 hP hD ls hl => ?_)
  have hPD : WD G DA (wI G q0 n0 xs0 ++ (wI G q1 n1 xs1)) s.heap := ⟨hP, hD⟩
  have hS : va_S DA s.heap s.heap [] := va_S.rf
  have hl : lv_has ls 3 [(0, .ref q0), (1, .ref q1)] := hl
  obtain ⟨hx, hb, hml, hown, hts⟩ := C0.1
  have hK := C0.2.2.2.1
  unfold f10_copies at h
  refine lv_iconst (v := 0) hx hb dX10_copies_0 (by decide) ?_
  refine lv_istore_n (lv' := [(2, .int 0), (0, .ref q0), (1, .ref q1)]) hx hb dX10_copies_1 rfl hl (by decide) rfl (fun ls hl => ?_)
  exact ww_f10_copies_l2 C0 hn0 hn1 NF xs1 0 h _ _ _ hPD hS (lv_sub hl [1, 2, 0] rfl)
abbrev rmX10_isTold : Room := { frames := 1, cells := 0, slots := 0, locals := 22 }
set_option maxRecDepth 100000 in
set_option maxHeartbeats 4000000 in
theorem kt_X10_isTold (l : Launch) (G : Gp) (h0 : Nat) (a0 : Nat → Nat) (f0 : Nat → Int32) (A0 : Nat → Nat → Int32) (p1 : Int32) : CtrI l yX10_isTold cX10_isTold 2 (some .boolean) rmX10_isTold G [.ref h0, .int p1] (wX10 G h0 a0 f0 A0) (f10_isTold f0 A0 p1) (wX10 G h0 a0 f0 A0) := by
  obtain ⟨res, h⟩ : ∃ res, f10_isTold f0 A0 p1 = res := ⟨_, rfl⟩
  rw [h]
  refine ctrI_of (cc := cX10_isTold) (maxL := 2) (ret := (some .boolean)) (by decide +kernel) rfl (Nat.le_of_ble_eq_true rfl) (fun p e s m below meth c DA C0 hP hD ls hl => ?_)
  have hPD : WD G DA (wX10 G h0 a0 f0 A0) s.heap := ⟨hP, hD⟩
  have hS : va_S DA s.heap s.heap [] := va_S.rf
  have hl : lv_has ls 2 [(0, .ref h0), (1, .int p1)] := hl
  obtain ⟨hx, hb, hml, hown, hts⟩ := C0.1
  have hK := C0.2.2.2.1
  unfold f10_isTold at h
  refine lv_iload_n hx hb dX10_isTold_0 rfl (lv_at hl 1 rfl) ?_
  refine lv_iconst (v := 0) hx hb dX10_isTold_1 (by decide) ?_
  refine lv_bipush (v := 15) hx hb dX10_isTold_2 (by decide) ?_
  refine kSI (As := [.int p1, .int 0, .int 15]) (rest := []) C0 (kt_X10_in l G  p1 0 15) gi_S_X10_112_X10_in (n := 3) rfl (by decide +kernel) ⟨rfl, rfl, Nat.le_of_ble_eq_true rfl, Nat.le_of_ble_eq_true rfl⟩ hPD hS [] [0, 1, 2, 3, 4, 5, 6, 7, 8, 9, 10, 11, 12, 13, 14, 15, 16, 17, 18, 19, 20, 21, 22, 23, 24, 25, 26, 27, 28, 29, 30, 31, 32, 33] [0, 1, 2, 3, 4, 5, 6, 7, 8, 9, 10, 11, 12, 13, 14, 15, 16, 17, 18, 19, 20, 21, 22, 23, 24, 25, 26, 27, 28, 29, 30, 31, 32, 33] (wr := (wX10 G h0 a0 f0 A0)) (wN := (wX10 G h0 a0 f0 A0)) rfl rfl rfl rfl rfl hl.1 (Nat.le_of_ble_eq_true rfl) dX10_isTold_4 (fun H locs hPD hS => ?_)
  refine lv_if_eq (tgt := 25) hx hb dX10_isTold_7 (by decide) (fun cc1 => ?_) (fun cc1 => ?_)
  · have h := (if_pos cc1).symm.trans h
    refine lv_iconst (v := 0) hx hb dX10_isTold_25 (by decide) ?_
    subst h
    exact eZ C0 hPD.1 hPD.2 hS rfl rfl dX10_isTold_26
  · have h := (if_neg cc1).symm.trans h
    refine lv_aload_n hx hb dX10_isTold_10 rfl (lv_at hl 0 rfl) ?_
    refine va_get (D := G.1) (ci := 10) (v := .int (f0 6)) (C := RX10) (T := TX10) (N := 52) hx hb hts inlX10 hown hK hPD.1 0 rfl rfl 6 (by decide) (hts _ gw_532) (fun _ h9 => h9) rfl dX10_isTold_11 ?_
    refine lv_iload_n hx hb dX10_isTold_14 rfl (lv_at hl 1 rfl) ?_
    refine kSI (As := [.int (f0 6), .int p1]) (rest := []) C0 (kt_X10_has l G  (f0 6) p1) gi_S_X10_120_X10_has (n := 2) rfl (by decide +kernel) ⟨rfl, rfl, Nat.le_of_ble_eq_true rfl, Nat.le_of_ble_eq_true rfl⟩ hPD hS [] [0, 1, 2, 3, 4, 5, 6, 7, 8, 9, 10, 11, 12, 13, 14, 15, 16, 17, 18, 19, 20, 21, 22, 23, 24, 25, 26, 27, 28, 29, 30, 31, 32, 33] [0, 1, 2, 3, 4, 5, 6, 7, 8, 9, 10, 11, 12, 13, 14, 15, 16, 17, 18, 19, 20, 21, 22, 23, 24, 25, 26, 27, 28, 29, 30, 31, 32, 33] (wr := (wX10 G h0 a0 f0 A0)) (wN := (wX10 G h0 a0 f0 A0)) rfl rfl rfl rfl rfl hl.1 (Nat.le_of_ble_eq_true rfl) dX10_isTold_15 (fun H locs hPD hS => ?_)
    refine lv_if_eq (tgt := 25) hx hb dX10_isTold_18 (by decide) (fun cc1 => ?_) (fun cc1 => ?_)
    · have h := (if_pos cc1).symm.trans h
      refine lv_iconst (v := 0) hx hb dX10_isTold_25 (by decide) ?_
      subst h
      exact eZ C0 hPD.1 hPD.2 hS rfl rfl dX10_isTold_26
    · have h := (if_neg cc1).symm.trans h
      refine lv_iconst (v := 1) hx hb dX10_isTold_21 (by decide) ?_
      refine lv_goto (tgt := 26) hx hb dX10_isTold_22 (by decide) ?_
      subst h
      exact eZ C0 hPD.1 hPD.2 hS rfl rfl dX10_isTold_26
abbrev rmX10_isMan : Room := { frames := 1, cells := 0, slots := 0, locals := 22 }
set_option maxRecDepth 100000 in
set_option maxHeartbeats 4000000 in
theorem kt_X10_isMan (l : Launch) (G : Gp) (h0 : Nat) (a0 : Nat → Nat) (f0 : Nat → Int32) (A0 : Nat → Nat → Int32) (p1 : Int32) : ∀ {r : Int32}, f10_isMan f0 A0 p1 = some r → CtrI l yX10_isMan cX10_isMan 2 (some .boolean) rmX10_isMan G [.ref h0, .int p1] (wX10 G h0 a0 f0 A0) r (wX10 G h0 a0 f0 A0) := by
  intro res h
  refine ctrI_of (cc := cX10_isMan) (maxL := 2) (ret := (some .boolean)) (by decide +kernel) rfl (Nat.le_of_ble_eq_true rfl) (fun p e s m below meth c DA C0 hP hD ls hl => ?_)
  have hPD : WD G DA (wX10 G h0 a0 f0 A0) s.heap := ⟨hP, hD⟩
  have hS : va_S DA s.heap s.heap [] := va_S.rf
  have hl : lv_has ls 2 [(0, .ref h0), (1, .int p1)] := hl
  obtain ⟨hx, hb, hml, hown, hts⟩ := C0.1
  have hK := C0.2.2.2.1
  unfold f10_isMan at h
  refine lv_iload_n hx hb dX10_isMan_0 rfl (lv_at hl 1 rfl) ?_
  refine lv_iconst (v := 0) hx hb dX10_isMan_1 (by decide) ?_
  refine lv_bipush (v := 7) hx hb dX10_isMan_2 (by decide) ?_
  refine kSI (As := [.int p1, .int 0, .int 7]) (rest := []) C0 (kt_X10_in l G  p1 0 7) gi_S_X10_112_X10_in (n := 3) rfl (by decide +kernel) ⟨rfl, rfl, Nat.le_of_ble_eq_true rfl, Nat.le_of_ble_eq_true rfl⟩ hPD hS [] [0, 1, 2, 3, 4, 5, 6, 7, 8, 9, 10, 11, 12, 13, 14, 15, 16, 17, 18, 19, 20, 21, 22, 23, 24, 25, 26, 27, 28, 29, 30, 31, 32, 33] [0, 1, 2, 3, 4, 5, 6, 7, 8, 9, 10, 11, 12, 13, 14, 15, 16, 17, 18, 19, 20, 21, 22, 23, 24, 25, 26, 27, 28, 29, 30, 31, 32, 33] (wr := (wX10 G h0 a0 f0 A0)) (wN := (wX10 G h0 a0 f0 A0)) rfl rfl rfl rfl rfl hl.1 (Nat.le_of_ble_eq_true rfl) dX10_isMan_4 (fun H locs hPD hS => ?_)
  refine lv_if_eq (tgt := 27) hx hb dX10_isMan_7 (by decide) (fun cc1 => ?_) (fun cc1 => ?_)
  · have h := (if_pos cc1).symm.trans h
    refine lv_iconst (v := 0) hx hb dX10_isMan_27 (by decide) ?_
    obtain rfl := Option.some.inj h
    exact eZ C0 hPD.1 hPD.2 hS rfl rfl dX10_isMan_28
  · have h := (if_neg cc1).symm.trans h
    refine lv_aload_n hx hb dX10_isMan_10 rfl (lv_at hl 0 rfl) ?_
    refine va_get (D := G.1) (ci := 10) (v := .ref (a0 0)) (C := RX10) (T := TX10) (N := 52) hx hb hts inlX10 hown hK hPD.1 0 rfl rfl 0 (by decide) (hts _ gw_536) (fun _ h9 => h9) rfl dX10_isMan_11 ?_
    refine lv_bipush (v := 48) hx hb dX10_isMan_14 (by decide) ?_
    refine lv_iload_n hx hb dX10_isMan_16 rfl (lv_at hl 1 rfl) ?_
    refine lv_iadd hx hb dX10_isMan_17 ?_
    obtain ⟨hi_1, h⟩ := ob h
    refine va_iald hx hb hK hPD.1 1 1 rfl rfl hi_1 dX10_isMan_18 ?_
    refine lv_iconst (v := 1) hx hb dX10_isMan_19 (by decide) ?_
    refine lv_icmp_ne (tgt := 27) hx hb dX10_isMan_20 (by decide) (fun cc1 => ?_) (fun cc1 => ?_)
    · have h := (if_neg cc1).symm.trans h
      refine lv_iconst (v := 0) hx hb dX10_isMan_27 (by decide) ?_
      obtain rfl := Option.some.inj h
      exact eZ C0 hPD.1 hPD.2 hS rfl rfl dX10_isMan_28
    · have h := (if_pos cc1).symm.trans h
      refine lv_iconst (v := 1) hx hb dX10_isMan_23 (by decide) ?_
      refine lv_goto (tgt := 28) hx hb dX10_isMan_24 (by decide) ?_
      obtain rfl := Option.some.inj h
      exact eZ C0 hPD.1 hPD.2 hS rfl rfl dX10_isMan_28
abbrev rmX10_menAt : Room := { frames := 2, cells := 0, slots := 0, locals := 43 }
set_option maxRecDepth 100000 in
set_option maxHeartbeats 4000000 in
theorem ww_f10_menAt_b4  (C0 : Cx cX10_menAt 4 (some .int) RX10 p s m args meth c G DA) {h0 : Nat} {a0 : Nat → Nat} {f0 : Nat → Int32} {A0 : Nat → Nat → Int32} {p1 : Int32}  {k4 : Int32 → Int32 → Option (Int32)} {res : Int32}  (hk4 : ∀ (l2 : Int32) (l3 : Int32), k4 l2 l3 = some res → ∀ (H : Heap) (locs : List Loc) (ls : Array Slot), WD G DA (wX10 G h0 a0 f0 A0) H → va_S DA s.heap H locs → lv_has ls 4 [(0, .ref h0), (1, .int p1), (2, .int l2), (3, .int l3)] → W p l e rmX10_menAt s m args below meth c H locs 0 0 (MQ below (QI G DA res (wX10 G h0 a0 f0 A0)) args s 0 0 DA) (F0 m 4 ls [])) : ∀ (l2 : Int32) (l3 : Int32), f10_menAt_b4 f0 A0 p1  k4 l2 l3 = some res → ∀ (H : Heap) (locs : List Loc) (ls : Array Slot), WD G DA (wX10 G h0 a0 f0 A0) H → va_S DA s.heap H locs → lv_has ls 4 [(0, .ref h0), (1, .int p1), (2, .int l2), (3, .int l3)] → W p l e rmX10_menAt s m args below meth c H locs 0 0 (MQ below (QI G DA res (wX10 G h0 a0 f0 A0)) args s 0 0 DA) (F0 m 4 ls []) := by
  obtain ⟨hx, hb, hml, hown, hts⟩ := C0.1
  have hK := C0.2.2.2.1
  intro l2 l3 h _ _ _ hPD hS hl
  unfold f10_menAt_b4 at h
  refine lv_iload_n hx hb dX10_menAt_4 rfl (lv_at hl 3 rfl) ?_
  refine lv_bipush (v := 8) hx hb dX10_menAt_5 (by decide) ?_
  refine lv_icmp_ge (tgt := 43) hx hb dX10_menAt_7 (by decide) (fun cc1 => ?_) (fun cc1 => ?_)
  · have h := (if_pos cc1).symm.trans h
    refine lv_iload_n hx hb dX10_menAt_43 rfl (lv_at hl 2 rfl) ?_
    obtain rfl := Option.some.inj h
    exact eI C0 hPD.1 hPD.2 hS rfl dX10_menAt_44
  · have h := (if_neg cc1).symm.trans h
    refine lv_aload_n hx hb dX10_menAt_10 rfl (lv_at hl 0 rfl) ?_
    refine lv_iload_n hx hb dX10_menAt_11 rfl (lv_at hl 3 rfl) ?_
    obtain ⟨q_1, hq_1, h⟩ := ob2 h
    refine kVI (As := [.int l3]) (rest := []) C0 (kt_X10_isMan l G h0 a0 f0 A0 l3 hq_1) gi_V_X10_124_X10_isMan (n := 1) rfl (by decide +kernel) rfl ⟨rfl, rfl, Nat.le_of_ble_eq_true rfl, Nat.le_of_ble_eq_true rfl⟩ hPD hS 0 10 rfl rfl rfl [0, 1, 2, 3, 4, 5, 6, 7, 8, 9, 10, 11, 12, 13, 14, 15, 16, 17, 18, 19, 20, 21, 22, 23, 24, 25, 26, 27, 28, 29, 30, 31, 32, 33] [] [0, 1, 2, 3, 4, 5, 6, 7, 8, 9, 10, 11, 12, 13, 14, 15, 16, 17, 18, 19, 20, 21, 22, 23, 24, 25, 26, 27, 28, 29, 30, 31, 32, 33] (wr := ([] : va_W)) (wN := (wX10 G h0 a0 f0 A0)) rfl rfl rfl rfl rfl hl.1 (Nat.le_of_ble_eq_true rfl) dX10_menAt_12 (fun H locs hPD hS => ?_)
    refine lv_if_eq (tgt := 37) hx hb dX10_menAt_15 (by decide) (fun cc1 => ?_) (fun cc1 => ?_)
    · have h := (if_pos cc1).symm.trans h
      refine lv_iinc (v := l3 + 1) (lv' := [(3, .int (l3 + 1)), (0, .ref h0), (1, .int p1), (2, .int l2)]) hx hb dX10_menAt_37 hl (k := 3) rfl rfl (by decide) rfl (fun ls hl => ?_)
      refine lv_goto (tgt := 4) hx hb dX10_menAt_40 (by decide) ?_
      exact hk4 l2 (l3 + 1) h _ _ _ hPD hS (lv_sub hl [1, 2, 3, 0] rfl)
    · have h := (if_neg cc1).symm.trans h
      refine lv_aload_n hx hb dX10_menAt_18 rfl (lv_at hl 0 rfl) ?_
      refine va_get (D := G.1) (ci := 10) (v := .ref (a0 0)) (C := RX10) (T := TX10) (N := 52) hx hb hts inlX10 hown hK hPD.1 0 rfl rfl 0 (by decide) (hts _ gw_536) (fun _ h9 => h9) rfl dX10_menAt_19 ?_
      refine lv_bipush (v := 56) hx hb dX10_menAt_22 (by decide) ?_
      refine lv_iload_n hx hb dX10_menAt_24 rfl (lv_at hl 3 rfl) ?_
      refine lv_iadd hx hb dX10_menAt_25 ?_
      obtain ⟨hi_2, h⟩ := ob h
      refine va_iald hx hb hK hPD.1 1 1 rfl rfl hi_2 dX10_menAt_26 ?_
      refine lv_iload_n hx hb dX10_menAt_27 rfl (lv_at hl 1 rfl) ?_
      refine lv_icmp_ne (tgt := 37) hx hb dX10_menAt_28 (by decide) (fun cc1 => ?_) (fun cc1 => ?_)
      · have h := (if_neg cc1).symm.trans h
        refine lv_iinc (v := l3 + 1) (lv' := [(3, .int (l3 + 1)), (0, .ref h0), (1, .int p1), (2, .int l2)]) hx hb dX10_menAt_37 hl (k := 3) rfl rfl (by decide) rfl (fun ls hl => ?_)
        refine lv_goto (tgt := 4) hx hb dX10_menAt_40 (by decide) ?_
        exact hk4 l2 (l3 + 1) h _ _ _ hPD hS (lv_sub hl [1, 2, 3, 0] rfl)
      · have h := (if_pos cc1).symm.trans h
        refine lv_iload_n hx hb dX10_menAt_31 rfl (lv_at hl 2 rfl) ?_
        refine lv_iconst (v := 1) hx hb dX10_menAt_32 (by decide) ?_
        refine lv_iload_n hx hb dX10_menAt_33 rfl (lv_at hl 3 rfl) ?_
        refine lv_ishl hx hb dX10_menAt_34 ?_
        refine lv_ior hx hb dX10_menAt_35 ?_
        refine lv_istore_n (lv' := [(2, .int (l2 ||| (shl 1 l3))), (0, .ref h0), (1, .int p1), (3, .int l3)]) hx hb dX10_menAt_36 rfl hl (by decide) rfl (fun ls hl => ?_)
        refine lv_iinc (v := l3 + 1) (lv' := [(3, .int (l3 + 1)), (2, .int (l2 ||| (shl 1 l3))), (0, .ref h0), (1, .int p1)]) hx hb dX10_menAt_37 hl (k := 3) rfl rfl (by decide) rfl (fun ls hl => ?_)
        refine lv_goto (tgt := 4) hx hb dX10_menAt_40 (by decide) ?_
        exact hk4 (l2 ||| (shl 1 l3)) (l3 + 1) h _ _ _ hPD hS (lv_sub hl [2, 3, 1, 0] rfl)
set_option maxRecDepth 100000 in
set_option maxHeartbeats 4000000 in
theorem ww_f10_menAt_l4  (C0 : Cx cX10_menAt 4 (some .int) RX10 p s m args meth c G DA) {h0 : Nat} {a0 : Nat → Nat} {f0 : Nat → Int32} {A0 : Nat → Nat → Int32} {p1 : Int32}   {res : Int32}  : ∀ (n : Nat) (l2 : Int32) (l3 : Int32), f10_menAt_l4 f0 A0 p1  n l2 l3 = some res → ∀ (H : Heap) (locs : List Loc) (ls : Array Slot), WD G DA (wX10 G h0 a0 f0 A0) H → va_S DA s.heap H locs → lv_has ls 4 [(0, .ref h0), (1, .int p1), (2, .int l2), (3, .int l3)] → W p l e rmX10_menAt s m args below meth c H locs 0 0 (MQ below (QI G DA res (wX10 G h0 a0 f0 A0)) args s 0 0 DA) (F0 m 4 ls []) := by
  intro n
  induction n with
  | zero => intro l2 l3 h; cases h
  | succ n ih => intro l2 l3 h; exact ww_f10_menAt_b4 C0  ih l2 l3 h
set_option maxRecDepth 100000 in
set_option maxHeartbeats 4000000 in
theorem kt_X10_menAt (l : Launch) (G : Gp) (h0 : Nat) (a0 : Nat → Nat) (f0 : Nat → Int32) (A0 : Nat → Nat → Int32) (p1 : Int32) : ∀ {r : Int32}, f10_menAt f0 A0 p1 = some r → CtrI l yX10_menAt cX10_menAt 4 (some .int) rmX10_menAt G [.ref h0, .int p1] (wX10 G h0 a0 f0 A0) r (wX10 G h0 a0 f0 A0) := by
  intro res h
  refine ctrI_of (cc := cX10_menAt) (maxL := 4) (ret := (some .int)) (by decide +kernel) rfl (Nat.le_of_ble_eq_true rfl) (fun p e s m below meth c DA C0 hP hD ls hl => ?_)
  have hPD : WD G DA (wX10 G h0 a0 f0 A0) s.heap := ⟨hP, hD⟩
  have hS : va_S DA s.heap s.heap [] := va_S.rf
  have hl : lv_has ls 4 [(0, .ref h0), (1, .int p1)] := hl
  obtain ⟨hx, hb, hml, hown, hts⟩ := C0.1
  have hK := C0.2.2.2.1
  unfold f10_menAt at h
  refine lv_iconst (v := 0) hx hb dX10_menAt_0 (by decide) ?_
  refine lv_istore_n (lv' := [(2, .int 0), (0, .ref h0), (1, .int p1)]) hx hb dX10_menAt_1 rfl hl (by decide) rfl (fun ls hl => ?_)
  refine lv_iconst (v := 0) hx hb dX10_menAt_2 (by decide) ?_
  refine lv_istore_n (lv' := [(3, .int 0), (2, .int 0), (0, .ref h0), (1, .int p1)]) hx hb dX10_menAt_3 rfl hl (by decide) rfl (fun ls hl => ?_)
  exact ww_f10_menAt_l4 C0 NF 0 0 h _ _ _ hPD hS (lv_sub hl [2, 3, 1, 0] rfl)
abbrev rmX10_guarded : Room := { frames := 2, cells := 0, slots := 0, locals := 43 }
set_option maxRecDepth 100000 in
set_option maxHeartbeats 4000000 in
theorem ww_f10_guarded_b4  (C0 : Cx cX10_guarded 3 (some .int) RX10 p s m args meth c G DA) {h0 : Nat} {a0 : Nat → Nat} {f0 : Nat → Int32} {A0 : Nat → Nat → Int32}  {k4 : Int32 → Int32 → Option (Int32)} {res : Int32}  (hk4 : ∀ (l1 : Int32) (l2 : Int32), k4 l1 l2 = some res → ∀ (H : Heap) (locs : List Loc) (ls : Array Slot), WD G DA (wX10 G h0 a0 f0 A0) H → va_S DA s.heap H locs → lv_has ls 3 [(0, .ref h0), (1, .int l1), (2, .int l2)] → W p l e rmX10_guarded s m args below meth c H locs 0 0 (MQ below (QI G DA res (wX10 G h0 a0 f0 A0)) args s 0 0 DA) (F0 m 4 ls [])) : ∀ (l1 : Int32) (l2 : Int32), f10_guarded_b4 f0 A0  k4 l1 l2 = some res → ∀ (H : Heap) (locs : List Loc) (ls : Array Slot), WD G DA (wX10 G h0 a0 f0 A0) H → va_S DA s.heap H locs → lv_has ls 3 [(0, .ref h0), (1, .int l1), (2, .int l2)] → W p l e rmX10_guarded s m args below meth c H locs 0 0 (MQ below (QI G DA res (wX10 G h0 a0 f0 A0)) args s 0 0 DA) (F0 m 4 ls []) := by
  obtain ⟨hx, hb, hml, hown, hts⟩ := C0.1
  have hK := C0.2.2.2.1
  intro l1 l2 h _ _ _ hPD hS hl
  unfold f10_guarded_b4 at h
  refine lv_iload_n hx hb dX10_guarded_4 rfl (lv_at hl 2 rfl) ?_
  refine lv_bipush (v := 8) hx hb dX10_guarded_5 (by decide) ?_
  refine lv_icmp_ge (tgt := 38) hx hb dX10_guarded_7 (by decide) (fun cc1 => ?_) (fun cc1 => ?_)
  · have h := (if_pos cc1).symm.trans h
    refine lv_iload_n hx hb dX10_guarded_38 rfl (lv_at hl 1 rfl) ?_
    obtain rfl := Option.some.inj h
    exact eI C0 hPD.1 hPD.2 hS rfl dX10_guarded_39
  · have h := (if_neg cc1).symm.trans h
    refine lv_aload_n hx hb dX10_guarded_10 rfl (lv_at hl 0 rfl) ?_
    refine lv_iload_n hx hb dX10_guarded_11 rfl (lv_at hl 2 rfl) ?_
    obtain ⟨q_1, hq_1, h⟩ := ob2 h
    refine kVI (As := [.int l2]) (rest := []) C0 (kt_X10_isMan l G h0 a0 f0 A0 l2 hq_1) gi_V_X10_124_X10_isMan (n := 1) rfl (by decide +kernel) rfl ⟨rfl, rfl, Nat.le_of_ble_eq_true rfl, Nat.le_of_ble_eq_true rfl⟩ hPD hS 0 10 rfl rfl rfl [0, 1, 2, 3, 4, 5, 6, 7, 8, 9, 10, 11, 12, 13, 14, 15, 16, 17, 18, 19, 20, 21, 22, 23, 24, 25, 26, 27, 28, 29, 30, 31, 32, 33] [] [0, 1, 2, 3, 4, 5, 6, 7, 8, 9, 10, 11, 12, 13, 14, 15, 16, 17, 18, 19, 20, 21, 22, 23, 24, 25, 26, 27, 28, 29, 30, 31, 32, 33] (wr := ([] : va_W)) (wN := (wX10 G h0 a0 f0 A0)) rfl rfl rfl rfl rfl hl.1 (Nat.le_of_ble_eq_true rfl) dX10_guarded_12 (fun H locs hPD hS => ?_)
    refine lv_if_eq (tgt := 32) hx hb dX10_guarded_15 (by decide) (fun cc1 => ?_) (fun cc1 => ?_)
    · have h := (if_pos cc1).symm.trans h
      refine lv_iinc (v := l2 + 1) (lv' := [(2, .int (l2 + 1)), (0, .ref h0), (1, .int l1)]) hx hb dX10_guarded_32 hl (k := 2) rfl rfl (by decide) rfl (fun ls hl => ?_)
      refine lv_goto (tgt := 4) hx hb dX10_guarded_35 (by decide) ?_
      exact hk4 l1 (l2 + 1) h _ _ _ hPD hS (lv_sub hl [1, 2, 0] rfl)
    · have h := (if_neg cc1).symm.trans h
      refine lv_iload_n hx hb dX10_guarded_18 rfl (lv_at hl 1 rfl) ?_
      refine lv_iconst (v := 1) hx hb dX10_guarded_19 (by decide) ?_
      refine lv_aload_n hx hb dX10_guarded_20 rfl (lv_at hl 0 rfl) ?_
      refine va_get (D := G.1) (ci := 10) (v := .ref (a0 0)) (C := RX10) (T := TX10) (N := 52) hx hb hts inlX10 hown hK hPD.1 0 rfl rfl 0 (by decide) (hts _ gw_536) (fun _ h9 => h9) rfl dX10_guarded_21 ?_
      refine lv_bipush (v := 56) hx hb dX10_guarded_24 (by decide) ?_
      refine lv_iload_n hx hb dX10_guarded_26 rfl (lv_at hl 2 rfl) ?_
      refine lv_iadd hx hb dX10_guarded_27 ?_
      obtain ⟨hi_2, h⟩ := ob h
      refine va_iald hx hb hK hPD.1 1 1 rfl rfl hi_2 dX10_guarded_28 ?_
      refine lv_ishl hx hb dX10_guarded_29 ?_
      refine lv_ior hx hb dX10_guarded_30 ?_
      refine lv_istore_n (lv' := [(1, .int (l1 ||| (shl 1 (gx (A0 0) (56 + l2))))), (0, .ref h0), (2, .int l2)]) hx hb dX10_guarded_31 rfl hl (by decide) rfl (fun ls hl => ?_)
      refine lv_iinc (v := l2 + 1) (lv' := [(2, .int (l2 + 1)), (1, .int (l1 ||| (shl 1 (gx (A0 0) (56 + l2))))), (0, .ref h0)]) hx hb dX10_guarded_32 hl (k := 2) rfl rfl (by decide) rfl (fun ls hl => ?_)
      refine lv_goto (tgt := 4) hx hb dX10_guarded_35 (by decide) ?_
      exact hk4 (l1 ||| (shl 1 (gx (A0 0) (56 + l2)))) (l2 + 1) h _ _ _ hPD hS (lv_sub hl [2, 1, 0] rfl)
set_option maxRecDepth 100000 in
set_option maxHeartbeats 4000000 in
theorem ww_f10_guarded_l4  (C0 : Cx cX10_guarded 3 (some .int) RX10 p s m args meth c G DA) {h0 : Nat} {a0 : Nat → Nat} {f0 : Nat → Int32} {A0 : Nat → Nat → Int32}   {res : Int32}  : ∀ (n : Nat) (l1 : Int32) (l2 : Int32), f10_guarded_l4 f0 A0  n l1 l2 = some res → ∀ (H : Heap) (locs : List Loc) (ls : Array Slot), WD G DA (wX10 G h0 a0 f0 A0) H → va_S DA s.heap H locs → lv_has ls 3 [(0, .ref h0), (1, .int l1), (2, .int l2)] → W p l e rmX10_guarded s m args below meth c H locs 0 0 (MQ below (QI G DA res (wX10 G h0 a0 f0 A0)) args s 0 0 DA) (F0 m 4 ls []) := by
  intro n
  induction n with
  | zero => intro l1 l2 h; cases h
  | succ n ih => intro l1 l2 h; exact ww_f10_guarded_b4 C0  ih l1 l2 h
set_option maxRecDepth 100000 in
set_option maxHeartbeats 4000000 in
theorem kt_X10_guarded (l : Launch) (G : Gp) (h0 : Nat) (a0 : Nat → Nat) (f0 : Nat → Int32) (A0 : Nat → Nat → Int32) : ∀ {r : Int32}, f10_guarded f0 A0 = some r → CtrI l yX10_guarded cX10_guarded 3 (some .int) rmX10_guarded G [.ref h0] (wX10 G h0 a0 f0 A0) r (wX10 G h0 a0 f0 A0) := by
  intro res h
  refine ctrI_of (cc := cX10_guarded) (maxL := 3) (ret := (some .int)) (by decide +kernel) rfl (Nat.le_of_ble_eq_true rfl) (fun p e s m below meth c DA C0 hP hD ls hl => ?_)
  have hPD : WD G DA (wX10 G h0 a0 f0 A0) s.heap := ⟨hP, hD⟩
  have hS : va_S DA s.heap s.heap [] := va_S.rf
  have hl : lv_has ls 3 [(0, .ref h0)] := hl
  obtain ⟨hx, hb, hml, hown, hts⟩ := C0.1
  have hK := C0.2.2.2.1
  unfold f10_guarded at h
  refine lv_iconst (v := 0) hx hb dX10_guarded_0 (by decide) ?_
  refine lv_istore_n (lv' := [(1, .int 0), (0, .ref h0)]) hx hb dX10_guarded_1 rfl hl (by decide) rfl (fun ls hl => ?_)
  refine lv_iconst (v := 0) hx hb dX10_guarded_2 (by decide) ?_
  refine lv_istore_n (lv' := [(2, .int 0), (1, .int 0), (0, .ref h0)]) hx hb dX10_guarded_3 rfl hl (by decide) rfl (fun ls hl => ?_)
  exact ww_f10_guarded_l4 C0 NF 0 0 h _ _ _ hPD hS (lv_sub hl [2, 1, 0] rfl)
abbrev rmX10_place : Room := { frames := 1, cells := 0, slots := 0, locals := 22 }
set_option maxRecDepth 100000 in
set_option maxHeartbeats 4000000 in
theorem kt_X10_place (l : Launch) (G : Gp) (h0 : Nat) (a0 : Nat → Nat) (f0 : Nat → Int32) (A0 : Nat → Nat → Int32) (p1 : Int32) (p2 : Int32) (p3 : Int32) : ∀ {r : Int32 × (Nat → Nat → Int32) × (Nat → Int32)}, f10_place f0 A0 p1 p2 p3 = some r → CtrI l yX10_place cX10_place 4 (some .boolean) rmX10_place G [.ref h0, .int p1, .int p2, .int p3] (wX10 G h0 a0 f0 A0) r.1 (wX10 G h0 a0 r.2.2 r.2.1) := by
  intro res h
  refine ctrI_of (cc := cX10_place) (maxL := 4) (ret := (some .boolean)) (by decide +kernel) rfl (Nat.le_of_ble_eq_true rfl) (fun p e s m below meth c DA C0 hP hD ls hl => ?_)
  have hPD : WD G DA (wX10 G h0 a0 f0 A0) s.heap := ⟨hP, hD⟩
  have hS : va_S DA s.heap s.heap [] := va_S.rf
  have hl : lv_has ls 4 [(0, .ref h0), (1, .int p1), (2, .int p2), (3, .int p3)] := hl
  obtain ⟨hx, hb, hml, hown, hts⟩ := C0.1
  have hK := C0.2.2.2.1
  unfold f10_place at h
  refine lv_iload_n hx hb dX10_place_0 rfl (lv_at hl 1 rfl) ?_
  refine lv_iconst (v := 0) hx hb dX10_place_1 (by decide) ?_
  refine lv_bipush (v := 15) hx hb dX10_place_2 (by decide) ?_
  refine kSI (As := [.int p1, .int 0, .int 15]) (rest := []) C0 (kt_X10_in l G  p1 0 15) gi_S_X10_112_X10_in (n := 3) rfl (by decide +kernel) ⟨rfl, rfl, Nat.le_of_ble_eq_true rfl, Nat.le_of_ble_eq_true rfl⟩ hPD hS [] [0, 1, 2, 3, 4, 5, 6, 7, 8, 9, 10, 11, 12, 13, 14, 15, 16, 17, 18, 19, 20, 21, 22, 23, 24, 25, 26, 27, 28, 29, 30, 31, 32, 33] [0, 1, 2, 3, 4, 5, 6, 7, 8, 9, 10, 11, 12, 13, 14, 15, 16, 17, 18, 19, 20, 21, 22, 23, 24, 25, 26, 27, 28, 29, 30, 31, 32, 33] (wr := (wX10 G h0 a0 f0 A0)) (wN := (wX10 G h0 a0 f0 A0)) rfl rfl rfl rfl rfl hl.1 (Nat.le_of_ble_eq_true rfl) dX10_place_4 (fun H locs hPD hS => ?_)
  refine lv_if_eq (tgt := 31) hx hb dX10_place_7 (by decide) (fun cc1 => ?_) (fun cc1 => ?_)
  · have h := (if_pos cc1).symm.trans h
    refine lv_iconst (v := 0) hx hb dX10_place_31 (by decide) ?_
    obtain rfl := Option.some.inj h
    exact eZ C0 hPD.1 hPD.2 hS rfl rfl dX10_place_32
  · have h := (if_neg cc1).symm.trans h
    refine lv_iload_n hx hb dX10_place_10 rfl (lv_at hl 2 rfl) ?_
    refine lv_iconst (v := 0) hx hb dX10_place_11 (by decide) ?_
    refine lv_bipush (v := 99) hx hb dX10_place_12 (by decide) ?_
    refine kSI (As := [.int p2, .int 0, .int 99]) (rest := []) C0 (kt_X10_in l G  p2 0 99) gi_S_X10_112_X10_in (n := 3) rfl (by decide +kernel) ⟨rfl, rfl, Nat.le_of_ble_eq_true rfl, Nat.le_of_ble_eq_true rfl⟩ hPD hS [] [0, 1, 2, 3, 4, 5, 6, 7, 8, 9, 10, 11, 12, 13, 14, 15, 16, 17, 18, 19, 20, 21, 22, 23, 24, 25, 26, 27, 28, 29, 30, 31, 32, 33] [0, 1, 2, 3, 4, 5, 6, 7, 8, 9, 10, 11, 12, 13, 14, 15, 16, 17, 18, 19, 20, 21, 22, 23, 24, 25, 26, 27, 28, 29, 30, 31, 32, 33] (wr := (wX10 G h0 a0 f0 A0)) (wN := (wX10 G h0 a0 f0 A0)) rfl rfl rfl rfl rfl hl.1 (Nat.le_of_ble_eq_true rfl) dX10_place_14 (fun H locs hPD hS => ?_)
    refine lv_if_eq (tgt := 31) hx hb dX10_place_17 (by decide) (fun cc1 => ?_) (fun cc1 => ?_)
    · have h := (if_pos cc1).symm.trans h
      refine lv_iconst (v := 0) hx hb dX10_place_31 (by decide) ?_
      obtain rfl := Option.some.inj h
      exact eZ C0 hPD.1 hPD.2 hS rfl rfl dX10_place_32
    · have h := (if_neg cc1).symm.trans h
      refine lv_iload_n hx hb dX10_place_20 rfl (lv_at hl 3 rfl) ?_
      refine lv_iconst (v := 0) hx hb dX10_place_21 (by decide) ?_
      refine lv_sipush (v := 999) hx hb dX10_place_22 (by decide) ?_
      refine kSI (As := [.int p3, .int 0, .int 999]) (rest := []) C0 (kt_X10_in l G  p3 0 999) gi_S_X10_112_X10_in (n := 3) rfl (by decide +kernel) ⟨rfl, rfl, Nat.le_of_ble_eq_true rfl, Nat.le_of_ble_eq_true rfl⟩ hPD hS [] [0, 1, 2, 3, 4, 5, 6, 7, 8, 9, 10, 11, 12, 13, 14, 15, 16, 17, 18, 19, 20, 21, 22, 23, 24, 25, 26, 27, 28, 29, 30, 31, 32, 33] [0, 1, 2, 3, 4, 5, 6, 7, 8, 9, 10, 11, 12, 13, 14, 15, 16, 17, 18, 19, 20, 21, 22, 23, 24, 25, 26, 27, 28, 29, 30, 31, 32, 33] (wr := (wX10 G h0 a0 f0 A0)) (wN := (wX10 G h0 a0 f0 A0)) rfl rfl rfl rfl rfl hl.1 (Nat.le_of_ble_eq_true rfl) dX10_place_25 (fun H locs hPD hS => ?_)
      refine lv_if_ne (tgt := 33) hx hb dX10_place_28 (by decide) (fun cc1 => ?_) (fun cc1 => ?_)
      · have h := (if_neg cc1).symm.trans h
        refine lv_aload_n hx hb dX10_place_33 rfl (lv_at hl 0 rfl) ?_
        refine lv_aload_n hx hb dX10_place_34 rfl (lv_at hl 0 rfl) ?_
        refine va_get (D := G.1) (ci := 10) (v := .int (f0 6)) (C := RX10) (T := TX10) (N := 52) hx hb hts inlX10 hown hK hPD.1 0 rfl rfl 6 (by decide) (hts _ gw_532) (fun _ h9 => h9) rfl dX10_place_35 ?_
        refine lv_iconst (v := 1) hx hb dX10_place_38 (by decide) ?_
        refine lv_iload_n hx hb dX10_place_39 rfl (lv_at hl 1 rfl) ?_
        refine lv_ishl hx hb dX10_place_40 ?_
        refine lv_ior hx hb dX10_place_41 ?_
        refine va_put (D := G.1) (ci := 10) (v := .int ((f0 6) ||| (shl 1 p1))) (ty := .int) (C := RX10) (T := TX10) (N := 52) hx hb hts inlX10 tyX10 tyX10_ok nmX10 hown hK hPD.1 hPD.2 hS 0 rfl rfl 6 (by decide) (hts _ gw_532) (fun _ h9 => h9) rfl (by decide +kernel) rfl rfl (Nat.le_of_ble_eq_true rfl) dX10_place_42 (fun H locs hP hD hS => ?_)
        obtain ⟨f0_1, ef0_1, h⟩ := lvl h
        have hPD : WD G DA (wX10 G h0 a0 f0_1 A0) H := by rw [ef0_1]; exact ⟨hP, hD⟩
        clear ef0_1 hP hD
        refine lv_aload_n hx hb dX10_place_45 rfl (lv_at hl 0 rfl) ?_
        refine va_get (D := G.1) (ci := 10) (v := .ref (a0 0)) (C := RX10) (T := TX10) (N := 52) hx hb hts inlX10 hown hK hPD.1 0 rfl rfl 0 (by decide) (hts _ gw_536) (fun _ h9 => h9) rfl dX10_place_46 ?_
        refine lv_iconst (v := 0) hx hb dX10_place_49 (by decide) ?_
        refine lv_iload_n hx hb dX10_place_50 rfl (lv_at hl 1 rfl) ?_
        refine lv_iadd hx hb dX10_place_51 ?_
        refine lv_iload_n hx hb dX10_place_52 rfl (lv_at hl 2 rfl) ?_
        obtain ⟨hi_2, h⟩ := ob h
        refine va_iast hx hb hK hPD.1 hPD.2 hS 1 1 rfl rfl hi_2 dX10_place_53 (fun H locs hP hD hS => ?_)
        obtain ⟨A0_3, eA0_3, h⟩ := lvl h
        have hPD : WD G DA (wX10 G h0 a0 f0_1 A0_3) H := by rw [eA0_3]; exact ⟨hP, hD⟩
        clear eA0_3 hP hD
        refine lv_aload_n hx hb dX10_place_54 rfl (lv_at hl 0 rfl) ?_
        refine va_get (D := G.1) (ci := 10) (v := .ref (a0 0)) (C := RX10) (T := TX10) (N := 52) hx hb hts inlX10 hown hK hPD.1 0 rfl rfl 0 (by decide) (hts _ gw_536) (fun _ h9 => h9) rfl dX10_place_55 ?_
        refine lv_bipush (v := 16) hx hb dX10_place_58 (by decide) ?_
        refine lv_iload_n hx hb dX10_place_60 rfl (lv_at hl 1 rfl) ?_
        refine lv_iadd hx hb dX10_place_61 ?_
        refine lv_iload_n hx hb dX10_place_62 rfl (lv_at hl 3 rfl) ?_
        obtain ⟨hi_4, h⟩ := ob h
        refine va_iast hx hb hK hPD.1 hPD.2 hS 1 1 rfl rfl hi_4 dX10_place_63 (fun H locs hP hD hS => ?_)
        obtain ⟨A0_5, eA0_5, h⟩ := lvl h
        have hPD : WD G DA (wX10 G h0 a0 f0_1 A0_5) H := by rw [eA0_5]; exact ⟨hP, hD⟩
        clear eA0_5 hP hD
        refine lv_iconst (v := 1) hx hb dX10_place_64 (by decide) ?_
        obtain rfl := Option.some.inj h
        exact eZ C0 hPD.1 hPD.2 hS rfl rfl dX10_place_65
      · have h := (if_pos cc1).symm.trans h
        refine lv_iconst (v := 0) hx hb dX10_place_31 (by decide) ?_
        obtain rfl := Option.some.inj h
        exact eZ C0 hPD.1 hPD.2 hS rfl rfl dX10_place_32
abbrev rmX10_constable : Room := { frames := 2, cells := 0, slots := 0, locals := 43 }
set_option maxRecDepth 100000 in
set_option maxHeartbeats 4000000 in
theorem kt_X10_constable (l : Launch) (G : Gp) (h0 : Nat) (a0 : Nat → Nat) (f0 : Nat → Int32) (A0 : Nat → Nat → Int32) (p1 : Int32) (p2 : Int32) : ∀ {r : Int32 × (Nat → Nat → Int32)}, f10_constable f0 A0 p1 p2 = some r → CtrI l yX10_constable cX10_constable 3 (some .boolean) rmX10_constable G [.ref h0, .int p1, .int p2] (wX10 G h0 a0 f0 A0) r.1 (wX10 G h0 a0 f0 r.2) := by
  intro res h
  refine ctrI_of (cc := cX10_constable) (maxL := 3) (ret := (some .boolean)) (by decide +kernel) rfl (Nat.le_of_ble_eq_true rfl) (fun p e s m below meth c DA C0 hP hD ls hl => ?_)
  have hPD : WD G DA (wX10 G h0 a0 f0 A0) s.heap := ⟨hP, hD⟩
  have hS : va_S DA s.heap s.heap [] := va_S.rf
  have hl : lv_has ls 3 [(0, .ref h0), (1, .int p1), (2, .int p2)] := hl
  obtain ⟨hx, hb, hml, hown, hts⟩ := C0.1
  have hK := C0.2.2.2.1
  unfold f10_constable at h
  refine lv_iload_n hx hb dX10_constable_0 rfl (lv_at hl 1 rfl) ?_
  refine lv_iconst (v := 0) hx hb dX10_constable_1 (by decide) ?_
  refine lv_bipush (v := 7) hx hb dX10_constable_2 (by decide) ?_
  refine kSI (As := [.int p1, .int 0, .int 7]) (rest := []) C0 (kt_X10_in l G  p1 0 7) gi_S_X10_112_X10_in (n := 3) rfl (by decide +kernel) ⟨rfl, rfl, Nat.le_of_ble_eq_true rfl, Nat.le_of_ble_eq_true rfl⟩ hPD hS [] [0, 1, 2, 3, 4, 5, 6, 7, 8, 9, 10, 11, 12, 13, 14, 15, 16, 17, 18, 19, 20, 21, 22, 23, 24, 25, 26, 27, 28, 29, 30, 31, 32, 33] [0, 1, 2, 3, 4, 5, 6, 7, 8, 9, 10, 11, 12, 13, 14, 15, 16, 17, 18, 19, 20, 21, 22, 23, 24, 25, 26, 27, 28, 29, 30, 31, 32, 33] (wr := (wX10 G h0 a0 f0 A0)) (wN := (wX10 G h0 a0 f0 A0)) rfl rfl rfl rfl rfl hl.1 (Nat.le_of_ble_eq_true rfl) dX10_constable_4 (fun H locs hPD hS => ?_)
  refine lv_if_eq (tgt := 18) hx hb dX10_constable_7 (by decide) (fun cc1 => ?_) (fun cc1 => ?_)
  · have h := (if_pos cc1).symm.trans h
    refine lv_iconst (v := 0) hx hb dX10_constable_18 (by decide) ?_
    obtain rfl := Option.some.inj h
    exact eZ C0 hPD.1 hPD.2 hS rfl rfl dX10_constable_19
  · have h := (if_neg cc1).symm.trans h
    refine lv_aload_n hx hb dX10_constable_10 rfl (lv_at hl 0 rfl) ?_
    refine lv_iload_n hx hb dX10_constable_11 rfl (lv_at hl 2 rfl) ?_
    refine kVI (As := [.int p2]) (rest := []) C0 (kt_X10_isTold l G h0 a0 f0 A0 p2) gi_V_X10_128_X10_isTold (n := 1) rfl (by decide +kernel) rfl ⟨rfl, rfl, Nat.le_of_ble_eq_true rfl, Nat.le_of_ble_eq_true rfl⟩ hPD hS 0 10 rfl rfl rfl [0, 1, 2, 3, 4, 5, 6, 7, 8, 9, 10, 11, 12, 13, 14, 15, 16, 17, 18, 19, 20, 21, 22, 23, 24, 25, 26, 27, 28, 29, 30, 31, 32, 33] [] [0, 1, 2, 3, 4, 5, 6, 7, 8, 9, 10, 11, 12, 13, 14, 15, 16, 17, 18, 19, 20, 21, 22, 23, 24, 25, 26, 27, 28, 29, 30, 31, 32, 33] (wr := ([] : va_W)) (wN := (wX10 G h0 a0 f0 A0)) rfl rfl rfl rfl rfl hl.1 (Nat.le_of_ble_eq_true rfl) dX10_constable_12 (fun H locs hPD hS => ?_)
    refine lv_if_ne (tgt := 20) hx hb dX10_constable_15 (by decide) (fun cc1 => ?_) (fun cc1 => ?_)
    · have h := (if_neg cc1).symm.trans h
      refine lv_aload_n hx hb dX10_constable_20 rfl (lv_at hl 0 rfl) ?_
      refine va_get (D := G.1) (ci := 10) (v := .ref (a0 0)) (C := RX10) (T := TX10) (N := 52) hx hb hts inlX10 hown hK hPD.1 0 rfl rfl 0 (by decide) (hts _ gw_536) (fun _ h9 => h9) rfl dX10_constable_21 ?_
      refine lv_bipush (v := 48) hx hb dX10_constable_24 (by decide) ?_
      refine lv_iload_n hx hb dX10_constable_26 rfl (lv_at hl 1 rfl) ?_
      refine lv_iadd hx hb dX10_constable_27 ?_
      refine lv_iconst (v := 1) hx hb dX10_constable_28 (by decide) ?_
      obtain ⟨hi_1, h⟩ := ob h
      refine va_iast hx hb hK hPD.1 hPD.2 hS 1 1 rfl rfl hi_1 dX10_constable_29 (fun H locs hP hD hS => ?_)
      obtain ⟨A0_2, eA0_2, h⟩ := lvl h
      have hPD : WD G DA (wX10 G h0 a0 f0 A0_2) H := by rw [eA0_2]; exact ⟨hP, hD⟩
      clear eA0_2 hP hD
      refine lv_aload_n hx hb dX10_constable_30 rfl (lv_at hl 0 rfl) ?_
      refine va_get (D := G.1) (ci := 10) (v := .ref (a0 0)) (C := RX10) (T := TX10) (N := 52) hx hb hts inlX10 hown hK hPD.1 0 rfl rfl 0 (by decide) (hts _ gw_536) (fun _ h9 => h9) rfl dX10_constable_31 ?_
      refine lv_bipush (v := 56) hx hb dX10_constable_34 (by decide) ?_
      refine lv_iload_n hx hb dX10_constable_36 rfl (lv_at hl 1 rfl) ?_
      refine lv_iadd hx hb dX10_constable_37 ?_
      refine lv_iload_n hx hb dX10_constable_38 rfl (lv_at hl 2 rfl) ?_
      obtain ⟨hi_3, h⟩ := ob h
      refine va_iast hx hb hK hPD.1 hPD.2 hS 1 1 rfl rfl hi_3 dX10_constable_39 (fun H locs hP hD hS => ?_)
      obtain ⟨A0_4, eA0_4, h⟩ := lvl h
      have hPD : WD G DA (wX10 G h0 a0 f0 A0_4) H := by rw [eA0_4]; exact ⟨hP, hD⟩
      clear eA0_4 hP hD
      refine lv_aload_n hx hb dX10_constable_40 rfl (lv_at hl 0 rfl) ?_
      refine va_get (D := G.1) (ci := 10) (v := .ref (a0 0)) (C := RX10) (T := TX10) (N := 52) hx hb hts inlX10 hown hK hPD.1 0 rfl rfl 0 (by decide) (hts _ gw_536) (fun _ h9 => h9) rfl dX10_constable_41 ?_
      refine lv_bipush (v := 64) hx hb dX10_constable_44 (by decide) ?_
      refine lv_iload_n hx hb dX10_constable_46 rfl (lv_at hl 1 rfl) ?_
      refine lv_iadd hx hb dX10_constable_47 ?_
      refine lv_iconst (v := 0) hx hb dX10_constable_48 (by decide) ?_
      obtain ⟨hi_5, h⟩ := ob h
      refine va_iast hx hb hK hPD.1 hPD.2 hS 1 1 rfl rfl hi_5 dX10_constable_49 (fun H locs hP hD hS => ?_)
      obtain ⟨A0_6, eA0_6, h⟩ := lvl h
      have hPD : WD G DA (wX10 G h0 a0 f0 A0_6) H := by rw [eA0_6]; exact ⟨hP, hD⟩
      clear eA0_6 hP hD
      refine lv_iconst (v := 1) hx hb dX10_constable_50 (by decide) ?_
      obtain rfl := Option.some.inj h
      exact eZ C0 hPD.1 hPD.2 hS rfl rfl dX10_constable_51
    · have h := (if_pos cc1).symm.trans h
      refine lv_iconst (v := 0) hx hb dX10_constable_18 (by decide) ?_
      obtain rfl := Option.some.inj h
      exact eZ C0 hPD.1 hPD.2 hS rfl rfl dX10_constable_19
abbrev rmX10_types : Room := { frames := 0, cells := 0, slots := 0, locals := 0 }
set_option maxRecDepth 100000 in
set_option maxHeartbeats 4000000 in
theorem ww_f10_types_b2  (C0 : Cx cX10_types 3 none RX10 p s m args meth c G DA) {h0 : Nat} {a0 : Nat → Nat} {p1 : Int32}  {k2 : (Nat → Nat → Int32) → (Nat → Int32) → Int32 → Option ((Nat → Nat → Int32) × (Nat → Int32))} {res : (Nat → Nat → Int32) × (Nat → Int32)}  (hk2 : ∀ (A0 : Nat → Nat → Int32) (f0 : Nat → Int32) (l2 : Int32), k2 A0 f0 l2 = some res → ∀ (H : Heap) (locs : List Loc) (ls : Array Slot), WD G DA (wX10 G h0 a0 f0 A0) H → va_S DA s.heap H locs → lv_has ls 3 [(0, .ref h0), (1, .int p1), (2, .int l2)] → W p l e rmX10_types s m args below meth c H locs 0 0 (MQ below (QV G DA (wX10 G h0 a0 res.2 res.1)) args s 0 0 DA) (F0 m 2 ls [])) : ∀ (A0 : Nat → Nat → Int32) (f0 : Nat → Int32) (l2 : Int32), f10_types_b2 p1  k2 A0 f0 l2 = some res → ∀ (H : Heap) (locs : List Loc) (ls : Array Slot), WD G DA (wX10 G h0 a0 f0 A0) H → va_S DA s.heap H locs → lv_has ls 3 [(0, .ref h0), (1, .int p1), (2, .int l2)] → W p l e rmX10_types s m args below meth c H locs 0 0 (MQ below (QV G DA (wX10 G h0 a0 res.2 res.1)) args s 0 0 DA) (F0 m 2 ls []) := by
  obtain ⟨hx, hb, hml, hown, hts⟩ := C0.1
  have hK := C0.2.2.2.1
  intro A0 f0 l2 h _ _ _ hPD hS hl
  unfold f10_types_b2 at h
  refine lv_iload_n hx hb dX10_types_2 rfl (lv_at hl 2 rfl) ?_
  refine lv_if_lt (tgt := 38) hx hb dX10_types_3 (by decide) (fun cc1 => ?_) (fun cc1 => ?_)
  · have h := (if_pos cc1).symm.trans h
    obtain rfl := Option.some.inj h
    exact eV C0 hPD.1 hPD.2 hS dX10_types_38
  · have h := (if_neg cc1).symm.trans h
    refine lv_aload_n hx hb dX10_types_6 rfl (lv_at hl 0 rfl) ?_
    refine va_get (D := G.1) (ci := 10) (v := .ref (a0 7)) (C := RX10) (T := TX10) (N := 52) hx hb hts inlX10 hown hK hPD.1 0 rfl rfl 7 (by decide) (hts _ gw_545) (fun _ h9 => h9) rfl dX10_types_7 ?_
    refine lv_aload_n hx hb dX10_types_10 rfl (lv_at hl 0 rfl) ?_
    refine va_get (D := G.1) (ci := 10) (v := .int (f0 8)) (C := RX10) (T := TX10) (N := 52) hx hb hts inlX10 hown hK hPD.1 0 rfl rfl 8 (by decide) (hts _ gw_546) (fun _ h9 => h9) rfl dX10_types_11 ?_
    refine lv_iload_n hx hb dX10_types_14 rfl (lv_at hl 1 rfl) ?_
    refine lv_bipush (v := 8) hx hb dX10_types_15 (by decide) ?_
    refine lv_iload_n hx hb dX10_types_17 rfl (lv_at hl 2 rfl) ?_
    refine lv_imul hx hb dX10_types_18 ?_
    refine lv_ishr hx hb dX10_types_19 ?_
    refine lv_i2b (v := i2b (shr p1 (8 * l2))) hx hb dX10_types_20 rfl ?_
    obtain ⟨hi_1, h⟩ := ob h
    refine va_bast hx hb hK hPD.1 hPD.2 hS 7 0 rfl rfl hi_1 dX10_types_21 (fun H locs hP hD hS => ?_)
    obtain ⟨A0_2, eA0_2, h⟩ := lvl h
    have hPD : WD G DA (wX10 G h0 a0 f0 A0_2) H := by rw [eA0_2]; exact ⟨hP, hD⟩
    clear eA0_2 hP hD
    refine lv_aload_n hx hb dX10_types_22 rfl (lv_at hl 0 rfl) ?_
    refine lv_aload_n hx hb dX10_types_23 rfl (lv_at hl 0 rfl) ?_
    refine va_get (D := G.1) (ci := 10) (v := .int (f0 8)) (C := RX10) (T := TX10) (N := 52) hx hb hts inlX10 hown hK hPD.1 0 rfl rfl 8 (by decide) (hts _ gw_546) (fun _ h9 => h9) rfl dX10_types_24 ?_
    refine lv_iconst (v := 1) hx hb dX10_types_27 (by decide) ?_
    refine lv_iadd hx hb dX10_types_28 ?_
    refine va_put (D := G.1) (ci := 10) (v := .int ((f0 8) + 1)) (ty := .int) (C := RX10) (T := TX10) (N := 52) hx hb hts inlX10 tyX10 tyX10_ok nmX10 hown hK hPD.1 hPD.2 hS 0 rfl rfl 8 (by decide) (hts _ gw_546) (fun _ h9 => h9) rfl (by decide +kernel) rfl rfl (Nat.le_of_ble_eq_true rfl) dX10_types_29 (fun H locs hP hD hS => ?_)
    obtain ⟨f0_3, ef0_3, h⟩ := lvl h
    have hPD : WD G DA (wX10 G h0 a0 f0_3 A0_2) H := by rw [ef0_3]; exact ⟨hP, hD⟩
    clear ef0_3 hP hD
    refine lv_iinc (v := l2 + (-1)) (lv' := [(2, .int (l2 + (-1))), (0, .ref h0), (1, .int p1)]) hx hb dX10_types_32 hl (k := 2) rfl rfl (by decide) rfl (fun ls hl => ?_)
    refine lv_goto (tgt := 2) hx hb dX10_types_35 (by decide) ?_
    exact hk2 A0_2 f0_3 (l2 + (-1)) h _ _ _ hPD hS (lv_sub hl [1, 2, 0] rfl)
end WALK
