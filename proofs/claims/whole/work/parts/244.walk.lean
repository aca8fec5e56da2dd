section WALK
variable {p : Program} {l : Launch} {e : Env} {s : State} {m : MethodId} {args : Array Value} {below : List Frame} {meth : Method} {c : Code} {G : Gp} {DA : Nat → Prop}
set_option maxRecDepth 100000 in
set_option maxHeartbeats 4000000 in
theorem ww_f10_lanes_l27  (C0 : Cx cX10_lanes 8 (some .int) RX10 p s m args meth c G DA) {h0 : Nat} {a0 : Nat → Nat} {f0 : Nat → Int32} {p1 : Int32}   {res : Int32 × (Nat → Nat → Int32)}  : ∀ (n : Nat) (A0 : Nat → Nat → Int32) (l2 : Int32) (l3 : Int32) (l4 : Int32) (l5 : Int32) (l6 : Int32), f10_lanes_l27 f0 p1  n A0 l2 l3 l4 l5 l6 = some res → ∀ (H : Heap) (locs : List Loc) (ls : Array Slot), WD G DA (wX10 G h0 a0 f0 A0) H → va_S DA s.heap H locs → lv_has ls 8 [(0, .ref h0), (1, .int p1), (2, .int l2), (3, .int l3), (4, .int l4), (5, .int l5), (6, .int l6)] → W p l e rmX10_lanes s m args below meth c H locs 0 0 (MQ below (QI G DA res.1 (wX10 G h0 a0 f0 res.2)) args s 0 0 DA) (F0 m 27 ls []) := by
  intro n
  induction n with
  | zero => intro A0 l2 l3 l4 l5 l6 h; cases h
  | succ n ih => intro A0 l2 l3 l4 l5 l6 h; exact ww_f10_lanes_b27 C0  ih A0 l2 l3 l4 l5 l6 h
set_option maxRecDepth 100000 in
set_option maxHeartbeats 4000000 in
theorem kt_X10_lanes (l : Launch) (G : Gp) (h0 : Nat) (a0 : Nat → Nat) (f0 : Nat → Int32) (A0 : Nat → Nat → Int32) (p1 : Int32) : ∀ {r : Int32 × (Nat → Nat → Int32)}, f10_lanes f0 A0 p1 = some r → CtrI l yX10_lanes cX10_lanes 8 (some .int) rmX10_lanes G [.ref h0, .int p1] (wX10 G h0 a0 f0 A0) r.1 (wX10 G h0 a0 f0 r.2) := by
  intro res h
  refine ctrI_of (cc := cX10_lanes) (maxL := 8) (ret := (some .int)) (by decide +kernel) rfl (Nat.le_of_ble_eq_true rfl) (fun p e s m below meth c DA C0 hP hD ls hl => ?_)
  have hPD : WD G DA (wX10 G h0 a0 f0 A0) s.heap := ⟨hP, hD⟩
  have hS : va_S DA s.heap s.heap [] := va_S.rf
  have hl : lv_has ls 8 [(0, .ref h0), (1, .int p1)] := hl
  obtain ⟨hx, hb, hml, hown, hts⟩ := C0.1
  have hK := C0.2.2.2.1
  unfold f10_lanes at h
  refine lv_iload_n hx hb dX10_lanes_0 rfl (lv_at hl 1 rfl) ?_
  refine lv_iconst (v := 0) hx hb dX10_lanes_1 (by decide) ?_
  refine lv_iconst (v := 3) hx hb dX10_lanes_2 (by decide) ?_
  refine kSI (As := [.int p1, .int 0, .int 3]) (rest := []) C0 (kt_X10_in l G  p1 0 3) gi_S_X10_112_X10_in (n := 3) rfl (by decide +kernel) ⟨rfl, rfl, Nat.le_of_ble_eq_true rfl, Nat.le_of_ble_eq_true rfl⟩ hPD hS [] [0, 1, 2, 3, 4, 5, 6, 7, 8, 9, 10, 11, 12, 13, 14, 15, 16, 17, 18, 19, 20, 21, 22, 23, 24, 25, 26, 27, 28, 29, 30, 31, 32, 33] [0, 1, 2, 3, 4, 5, 6, 7, 8, 9, 10, 11, 12, 13, 14, 15, 16, 17, 18, 19, 20, 21, 22, 23, 24, 25, 26, 27, 28, 29, 30, 31, 32, 33] (wr := (wX10 G h0 a0 f0 A0)) (wN := (wX10 G h0 a0 f0 A0)) rfl rfl rfl rfl rfl hl.1 (Nat.le_of_ble_eq_true rfl) dX10_lanes_3 (fun H locs hPD hS => ?_)
  refine lv_if_ne (tgt := 11) hx hb dX10_lanes_6 (by decide) (fun cc1 => ?_) (fun cc1 => ?_)
  · have h := (if_neg cc1).symm.trans h
    refine lv_iconst (v := 0) hx hb dX10_lanes_11 (by decide) ?_
    refine lv_istore_n (lv' := [(2, .int 0), (0, .ref h0), (1, .int p1)]) hx hb dX10_lanes_12 rfl hl (by decide) rfl (fun ls hl => ?_)
    refine lv_iconst (v := 0) hx hb dX10_lanes_13 (by decide) ?_
    refine lv_istore_n (lv' := [(3, .int 0), (2, .int 0), (0, .ref h0), (1, .int p1)]) hx hb dX10_lanes_14 rfl hl (by decide) rfl (fun ls hl => ?_)
    refine lv_bipush (v := (-2)) hx hb dX10_lanes_15 (by decide) ?_
    refine lv_istore (lv' := [(4, .int (-2)), (3, .int 0), (2, .int 0), (0, .ref h0), (1, .int p1)]) hx hb dX10_lanes_17 hl (by decide) rfl (fun ls hl => ?_)
    refine lv_bipush (v := (-2)) hx hb dX10_lanes_19 (by decide) ?_
    refine lv_istore (lv' := [(5, .int (-2)), (4, .int (-2)), (3, .int 0), (2, .int 0), (0, .ref h0), (1, .int p1)]) hx hb dX10_lanes_21 hl (by decide) rfl (fun ls hl => ?_)
    refine lv_bipush (v := 15) hx hb dX10_lanes_23 (by decide) ?_
    refine lv_istore (lv' := [(6, .int 15), (5, .int (-2)), (4, .int (-2)), (3, .int 0), (2, .int 0), (0, .ref h0), (1, .int p1)]) hx hb dX10_lanes_25 hl (by decide) rfl (fun ls hl => ?_)
    exact ww_f10_lanes_l27 C0 NF A0 0 0 (-2) (-2) 15 h _ _ _ hPD hS (lv_sub hl [5, 6, 4, 3, 2, 1, 0] rfl)
  · have h := (if_pos cc1).symm.trans h
    refine lv_iconst (v := (-1)) hx hb dX10_lanes_9 (by decide) ?_
    obtain rfl := Option.some.inj h
    exact eI C0 hPD.1 hPD.2 hS rfl dX10_lanes_10
abbrev rmX10_clashes : Room := { frames := 1, cells := 0, slots := 0, locals := 21 }
set_option maxRecDepth 100000 in
set_option maxHeartbeats 4000000 in
theorem ww_f10_clashes_b2  (C0 : Cx cX10_clashes 3 (some .boolean) RX10 p s m args meth c G DA) {h0 : Nat} {a0 : Nat → Nat} {f0 : Nat → Int32} {A0 : Nat → Nat → Int32} {p1 : Int32}  {k2 : Int32 → Option (Int32)} {res : Int32}  (hk2 : ∀ (l2 : Int32), k2 l2 = some res → ∀ (H : Heap) (locs : List Loc) (ls : Array Slot), WD G DA (wX10 G h0 a0 f0 A0) H → va_S DA s.heap H locs → lv_has ls 3 [(0, .ref h0), (1, .int p1), (2, .int l2)] → W p l e rmX10_clashes s m args below meth c H locs 0 0 (MQ below (QI G DA res (wX10 G h0 a0 f0 A0)) args s 0 0 DA) (F0 m 2 ls [])) : ∀ (l2 : Int32), f10_clashes_b2 f0 A0 p1  k2 l2 = some res → ∀ (H : Heap) (locs : List Loc) (ls : Array Slot), WD G DA (wX10 G h0 a0 f0 A0) H → va_S DA s.heap H locs → lv_has ls 3 [(0, .ref h0), (1, .int p1), (2, .int l2)] → W p l e rmX10_clashes s m args below meth c H locs 0 0 (MQ below (QI G DA res (wX10 G h0 a0 f0 A0)) args s 0 0 DA) (F0 m 2 ls []) := by
  obtain ⟨hx, hb, hml, hown, hts⟩ := C0.1
  have hK := C0.2.2.2.1
  intro l2 h _ _ _ hPD hS hl
  unfold f10_clashes_b2 at h
  refine lv_iload_n hx hb dX10_clashes_2 rfl (lv_at hl 2 rfl) ?_
  refine lv_iload_n hx hb dX10_clashes_3 rfl (lv_at hl 1 rfl) ?_
  refine lv_icmp_ge (tgt := 53) hx hb dX10_clashes_4 (by decide) (fun cc1 => ?_) (fun cc1 => ?_)
  · have h := (if_pos cc1).symm.trans h
    refine lv_iconst (v := 0) hx hb dX10_clashes_53 (by decide) ?_
    obtain rfl := Option.some.inj h
    exact eZ C0 hPD.1 hPD.2 hS rfl rfl dX10_clashes_54
  · have h := (if_neg cc1).symm.trans h
    refine lv_aload_n hx hb dX10_clashes_7 rfl (lv_at hl 0 rfl) ?_
    refine va_get (D := G.1) (ci := 10) (v := .ref (a0 48)) (C := RX10) (T := TX10) (N := 52) hx hb hts inlX10 hown hK hPD.1 0 rfl rfl 48 (by decide) (hts _ gw_794) (fun _ h9 => h9) rfl dX10_clashes_8 ?_
    refine lv_iload_n hx hb dX10_clashes_11 rfl (lv_at hl 2 rfl) ?_
    obtain ⟨hi_1, h⟩ := ob h
    refine va_iald hx hb hK hPD.1 31 1 rfl rfl hi_1 dX10_clashes_12 ?_
    refine lv_aload_n hx hb dX10_clashes_13 rfl (lv_at hl 0 rfl) ?_
    refine va_get (D := G.1) (ci := 10) (v := .ref (a0 48)) (C := RX10) (T := TX10) (N := 52) hx hb hts inlX10 hown hK hPD.1 0 rfl rfl 48 (by decide) (hts _ gw_794) (fun _ h9 => h9) rfl dX10_clashes_14 ?_
    refine lv_iload_n hx hb dX10_clashes_17 rfl (lv_at hl 1 rfl) ?_
    obtain ⟨hi_2, h⟩ := ob h
    refine va_iald hx hb hK hPD.1 31 1 rfl rfl hi_2 dX10_clashes_18 ?_
    refine lv_icmp_ne (tgt := 47) hx hb dX10_clashes_19 (by decide) (fun cc1 => ?_) (fun cc1 => ?_)
    · have h := (if_neg cc1).symm.trans h
      refine lv_iinc (v := l2 + 1) (lv' := [(2, .int (l2 + 1)), (0, .ref h0), (1, .int p1)]) hx hb dX10_clashes_47 hl (k := 2) rfl rfl (by decide) rfl (fun ls hl => ?_)
      refine lv_goto (tgt := 2) hx hb dX10_clashes_50 (by decide) ?_
      exact hk2 (l2 + 1) h _ _ _ hPD hS (lv_sub hl [1, 2, 0] rfl)
    · have h := (if_pos cc1).symm.trans h
      refine lv_aload_n hx hb dX10_clashes_22 rfl (lv_at hl 0 rfl) ?_
      refine va_get (D := G.1) (ci := 10) (v := .ref (a0 3)) (C := RX10) (T := TX10) (N := 52) hx hb hts inlX10 hown hK hPD.1 0 rfl rfl 3 (by decide) (hts _ gw_663) (fun _ h9 => h9) rfl dX10_clashes_23 ?_
      refine lv_aload_n hx hb dX10_clashes_26 rfl (lv_at hl 0 rfl) ?_
      refine va_get (D := G.1) (ci := 10) (v := .ref (a0 49)) (C := RX10) (T := TX10) (N := 52) hx hb hts inlX10 hown hK hPD.1 0 rfl rfl 49 (by decide) (hts _ gw_795) (fun _ h9 => h9) rfl dX10_clashes_27 ?_
      refine lv_iload_n hx hb dX10_clashes_30 rfl (lv_at hl 1 rfl) ?_
      obtain ⟨hi_3, h⟩ := ob h
      refine va_iald hx hb hK hPD.1 32 1 rfl rfl hi_3 dX10_clashes_31 ?_
      obtain ⟨hi_4, h⟩ := ob h
      refine va_iald hx hb hK hPD.1 4 1 rfl rfl hi_4 dX10_clashes_32 ?_
      refine lv_aload_n hx hb dX10_clashes_33 rfl (lv_at hl 0 rfl) ?_
      refine va_get (D := G.1) (ci := 10) (v := .ref (a0 49)) (C := RX10) (T := TX10) (N := 52) hx hb hts inlX10 hown hK hPD.1 0 rfl rfl 49 (by decide) (hts _ gw_795) (fun _ h9 => h9) rfl dX10_clashes_34 ?_
      refine lv_iload_n hx hb dX10_clashes_37 rfl (lv_at hl 2 rfl) ?_
      obtain ⟨hi_5, h⟩ := ob h
      refine va_iald hx hb hK hPD.1 32 1 rfl rfl hi_5 dX10_clashes_38 ?_
      refine kSI (As := [.int (gx (A0 3) (gx (A0 49) p1)), .int (gx (A0 49) l2)]) (rest := []) C0 (kt_X10_has l G  (gx (A0 3) (gx (A0 49) p1)) (gx (A0 49) l2)) gi_S_X10_120_X10_has (n := 2) rfl (by decide +kernel) ⟨rfl, rfl, Nat.le_of_ble_eq_true rfl, Nat.le_of_ble_eq_true rfl⟩ hPD hS [] [0, 1, 2, 3, 4, 5, 6, 7, 8, 9, 10, 11, 12, 13, 14, 15, 16, 17, 18, 19, 20, 21, 22, 23, 24, 25, 26, 27, 28, 29, 30, 31, 32, 33] [0, 1, 2, 3, 4, 5, 6, 7, 8, 9, 10, 11, 12, 13, 14, 15, 16, 17, 18, 19, 20, 21, 22, 23, 24, 25, 26, 27, 28, 29, 30, 31, 32, 33] (wr := (wX10 G h0 a0 f0 A0)) (wN := (wX10 G h0 a0 f0 A0)) rfl rfl rfl rfl rfl hl.1 (Nat.le_of_ble_eq_true rfl) dX10_clashes_39 (fun H locs hPD hS => ?_)
      refine lv_if_eq (tgt := 47) hx hb dX10_clashes_42 (by decide) (fun cc1 => ?_) (fun cc1 => ?_)
      · have h := (if_pos cc1).symm.trans h
        refine lv_iinc (v := l2 + 1) (lv' := [(2, .int (l2 + 1)), (0, .ref h0), (1, .int p1)]) hx hb dX10_clashes_47 hl (k := 2) rfl rfl (by decide) rfl (fun ls hl => ?_)
        refine lv_goto (tgt := 2) hx hb dX10_clashes_50 (by decide) ?_
        exact hk2 (l2 + 1) h _ _ _ hPD hS (lv_sub hl [1, 2, 0] rfl)
      · have h := (if_neg cc1).symm.trans h
        refine lv_iconst (v := 1) hx hb dX10_clashes_45 (by decide) ?_
        obtain rfl := Option.some.inj h
        exact eZ C0 hPD.1 hPD.2 hS rfl rfl dX10_clashes_46
set_option maxRecDepth 100000 in
set_option maxHeartbeats 4000000 in
theorem ww_f10_clashes_l2  (C0 : Cx cX10_clashes 3 (some .boolean) RX10 p s m args meth c G DA) {h0 : Nat} {a0 : Nat → Nat} {f0 : Nat → Int32} {A0 : Nat → Nat → Int32} {p1 : Int32}   {res : Int32}  : ∀ (n : Nat) (l2 : Int32), f10_clashes_l2 f0 A0 p1  n l2 = some res → ∀ (H : Heap) (locs : List Loc) (ls : Array Slot), WD G DA (wX10 G h0 a0 f0 A0) H → va_S DA s.heap H locs → lv_has ls 3 [(0, .ref h0), (1, .int p1), (2, .int l2)] → W p l e rmX10_clashes s m args below meth c H locs 0 0 (MQ below (QI G DA res (wX10 G h0 a0 f0 A0)) args s 0 0 DA) (F0 m 2 ls []) := by
  intro n
  induction n with
  | zero => intro l2 h; cases h
  | succ n ih => intro l2 h; exact ww_f10_clashes_b2 C0  ih l2 h
set_option maxRecDepth 100000 in
set_option maxHeartbeats 4000000 in
theorem kt_X10_clashes (l : Launch) (G : Gp) (h0 : Nat) (a0 : Nat → Nat) (f0 : Nat → Int32) (A0 : Nat → Nat → Int32) (p1 : Int32) : ∀ {r : Int32}, f10_clashes f0 A0 p1 = some r → CtrI l yX10_clashes cX10_clashes 3 (some .boolean) rmX10_clashes G [.ref h0, .int p1] (wX10 G h0 a0 f0 A0) r (wX10 G h0 a0 f0 A0) := by
  intro res h
  refine ctrI_of (cc := cX10_clashes) (maxL := 3) (ret := (some .boolean)) (by decide +kernel) rfl (Nat.le_of_ble_eq_true rfl) (fun p e s m below meth c DA C0 hP hD ls hl => ?_)
  have hPD : WD G DA (wX10 G h0 a0 f0 A0) s.heap := ⟨hP, hD⟩
  have hS : va_S DA s.heap s.heap [] := va_S.rf
  have hl : lv_has ls 3 [(0, .ref h0), (1, .int p1)] := hl
  obtain ⟨hx, hb, hml, hown, hts⟩ := C0.1
  have hK := C0.2.2.2.1
  unfold f10_clashes at h
  refine lv_iconst (v := 0) hx hb dX10_clashes_0 (by decide) ?_
  refine lv_istore_n (lv' := [(2, .int 0), (0, .ref h0), (1, .int p1)]) hx hb dX10_clashes_1 rfl hl (by decide) rfl (fun ls hl => ?_)
  exact ww_f10_clashes_l2 C0 NF 0 h _ _ _ hPD hS (lv_sub hl [1, 2, 0] rfl)
abbrev rmX10_highestOf : Room := { frames := 1, cells := 0, slots := 0, locals := 21 }
set_option maxRecDepth 100000 in
set_option maxHeartbeats 4000000 in
theorem ww_f10_highestOf_b4  (C0 : Cx cX10_highestOf 4 (some .int) RX10 p s m args meth c G DA) {h0 : Nat} {a0 : Nat → Nat} {f0 : Nat → Int32} {A0 : Nat → Nat → Int32} {p1 : Int32}  {k4 : Int32 → Int32 → Option (Int32)} {res : Int32}  (hk4 : ∀ (l2 : Int32) (l3 : Int32), k4 l2 l3 = some res → ∀ (H : Heap) (locs : List Loc) (ls : Array Slot), WD G DA (wX10 G h0 a0 f0 A0) H → va_S DA s.heap H locs → lv_has ls 4 [(0, .ref h0), (1, .int p1), (2, .int l2), (3, .int l3)] → W p l e rmX10_highestOf s m args below meth c H locs 0 0 (MQ below (QI G DA res (wX10 G h0 a0 f0 A0)) args s 0 0 DA) (F0 m 4 ls [])) : ∀ (l2 : Int32) (l3 : Int32), f10_highestOf_b4 f0 A0 p1  k4 l2 l3 = some res → ∀ (H : Heap) (locs : List Loc) (ls : Array Slot), WD G DA (wX10 G h0 a0 f0 A0) H → va_S DA s.heap H locs → lv_has ls 4 [(0, .ref h0), (1, .int p1), (2, .int l2), (3, .int l3)] → W p l e rmX10_highestOf s m args below meth c H locs 0 0 (MQ below (QI G DA res (wX10 G h0 a0 f0 A0)) args s 0 0 DA) (F0 m 4 ls []) := by
  obtain ⟨hx, hb, hml, hown, hts⟩ := C0.1
  have hK := C0.2.2.2.1
  intro l2 l3 h _ _ _ hPD hS hl
  unfold f10_highestOf_b4 at h
  refine lv_iload_n hx hb dX10_highestOf_4 rfl (lv_at hl 3 rfl) ?_
  refine lv_iload_n hx hb dX10_highestOf_5 rfl (lv_at hl 1 rfl) ?_
  refine lv_icmp_ge (tgt := 26) hx hb dX10_highestOf_6 (by decide) (fun cc1 => ?_) (fun cc1 => ?_)
  · have h := (if_pos cc1).symm.trans h
    refine lv_iload_n hx hb dX10_highestOf_26 rfl (lv_at hl 2 rfl) ?_
    obtain rfl := Option.some.inj h
    exact eI C0 hPD.1 hPD.2 hS rfl dX10_highestOf_27
  · have h := (if_neg cc1).symm.trans h
    refine lv_iload_n hx hb dX10_highestOf_9 rfl (lv_at hl 2 rfl) ?_
    refine lv_aload_n hx hb dX10_highestOf_10 rfl (lv_at hl 0 rfl) ?_
    refine va_get (D := G.1) (ci := 10) (v := .ref (a0 48)) (C := RX10) (T := TX10) (N := 52) hx hb hts inlX10 hown hK hPD.1 0 rfl rfl 48 (by decide) (hts _ gw_794) (fun _ h9 => h9) rfl dX10_highestOf_11 ?_
    refine lv_iload_n hx hb dX10_highestOf_14 rfl (lv_at hl 3 rfl) ?_
    obtain ⟨hi_1, h⟩ := ob h
    refine va_iald hx hb hK hPD.1 31 1 rfl rfl hi_1 dX10_highestOf_15 ?_
    refine kSI (As := [.int l2, .int (gx (A0 48) l3)]) (rest := []) C0 (kt_X10_max l G  l2 (gx (A0 48) l3)) gi_S_X10_287_X10_max (n := 2) rfl (by decide +kernel) ⟨rfl, rfl, Nat.le_of_ble_eq_true rfl, Nat.le_of_ble_eq_true rfl⟩ hPD hS [] [0, 1, 2, 3, 4, 5, 6, 7, 8, 9, 10, 11, 12, 13, 14, 15, 16, 17, 18, 19, 20, 21, 22, 23, 24, 25, 26, 27, 28, 29, 30, 31, 32, 33] [0, 1, 2, 3, 4, 5, 6, 7, 8, 9, 10, 11, 12, 13, 14, 15, 16, 17, 18, 19, 20, 21, 22, 23, 24, 25, 26, 27, 28, 29, 30, 31, 32, 33] (wr := (wX10 G h0 a0 f0 A0)) (wN := (wX10 G h0 a0 f0 A0)) rfl rfl rfl rfl rfl hl.1 (Nat.le_of_ble_eq_true rfl) dX10_highestOf_16 (fun H locs hPD hS => ?_)
    refine lv_istore_n (lv' := [(2, .int (f10_max l2 (gx (A0 48) l3))), (0, .ref h0), (1, .int p1), (3, .int l3)]) hx hb dX10_highestOf_19 rfl hl (by decide) rfl (fun ls hl => ?_)
    refine lv_iinc (v := l3 + 1) (lv' := [(3, .int (l3 + 1)), (2, .int (f10_max l2 (gx (A0 48) l3))), (0, .ref h0), (1, .int p1)]) hx hb dX10_highestOf_20 hl (k := 3) rfl rfl (by decide) rfl (fun ls hl => ?_)
    refine lv_goto (tgt := 4) hx hb dX10_highestOf_23 (by decide) ?_
    exact hk4 (f10_max l2 (gx (A0 48) l3)) (l3 + 1) h _ _ _ hPD hS (lv_sub hl [2, 3, 1, 0] rfl)
set_option maxRecDepth 100000 in
set_option maxHeartbeats 4000000 in
theorem ww_f10_highestOf_l4  (C0 : Cx cX10_highestOf 4 (some .int) RX10 p s m args meth c G DA) {h0 : Nat} {a0 : Nat → Nat} {f0 : Nat → Int32} {A0 : Nat → Nat → Int32} {p1 : Int32}   {res : Int32}  : ∀ (n : Nat) (l2 : Int32) (l3 : Int32), f10_highestOf_l4 f0 A0 p1  n l2 l3 = some res → ∀ (H : Heap) (locs : List Loc) (ls : Array Slot), WD G DA (wX10 G h0 a0 f0 A0) H → va_S DA s.heap H locs → lv_has ls 4 [(0, .ref h0), (1, .int p1), (2, .int l2), (3, .int l3)] → W p l e rmX10_highestOf s m args below meth c H locs 0 0 (MQ below (QI G DA res (wX10 G h0 a0 f0 A0)) args s 0 0 DA) (F0 m 4 ls []) := by
  intro n
  induction n with
  | zero => intro l2 l3 h; cases h
  | succ n ih => intro l2 l3 h; exact ww_f10_highestOf_b4 C0  ih l2 l3 h
set_option maxRecDepth 100000 in
set_option maxHeartbeats 4000000 in
theorem kt_X10_highestOf (l : Launch) (G : Gp) (h0 : Nat) (a0 : Nat → Nat) (f0 : Nat → Int32) (A0 : Nat → Nat → Int32) (p1 : Int32) : ∀ {r : Int32}, f10_highestOf f0 A0 p1 = some r → CtrI l yX10_highestOf cX10_highestOf 4 (some .int) rmX10_highestOf G [.ref h0, .int p1] (wX10 G h0 a0 f0 A0) r (wX10 G h0 a0 f0 A0) := by
  intro res h
  refine ctrI_of (cc := cX10_highestOf) (maxL := 4) (ret := (some .int)) (by decide +kernel) rfl (Nat.le_of_ble_eq_true rfl) (fun p e s m below meth c DA C0 hP hD ls hl => ?_)
  have hPD : WD G DA (wX10 G h0 a0 f0 A0) s.heap := ⟨hP, hD⟩
  have hS : va_S DA s.heap s.heap [] := va_S.rf
  have hl : lv_has ls 4 [(0, .ref h0), (1, .int p1)] := hl
  obtain ⟨hx, hb, hml, hown, hts⟩ := C0.1
  have hK := C0.2.2.2.1
  unfold f10_highestOf at h
  refine lv_iconst (v := (-1)) hx hb dX10_highestOf_0 (by decide) ?_
  refine lv_istore_n (lv' := [(2, .int (-1)), (0, .ref h0), (1, .int p1)]) hx hb dX10_highestOf_1 rfl hl (by decide) rfl (fun ls hl => ?_)
  refine lv_iconst (v := 0) hx hb dX10_highestOf_2 (by decide) ?_
  refine lv_istore_n (lv' := [(3, .int 0), (2, .int (-1)), (0, .ref h0), (1, .int p1)]) hx hb dX10_highestOf_3 rfl hl (by decide) rfl (fun ls hl => ?_)
  exact ww_f10_highestOf_l4 C0 NF (-1) 0 h _ _ _ hPD hS (lv_sub hl [2, 3, 1, 0] rfl)
abbrev rmX10_laysWatches : Room := { frames := 2, cells := 0, slots := 0, locals := 44 }
set_option maxRecDepth 100000 in
set_option maxHeartbeats 4000000 in
theorem ww_f10_laysWatches_b9  (C0 : Cx cX10_laysWatches 4 (some .boolean) RX10 p s m args meth c G DA) {h0 : Nat} {a0 : Nat → Nat} {f0 : Nat → Int32} {p1 : Int32} {p2 : Int32}  {k9 : (Nat → Nat → Int32) → Int32 → Option (Int32 × (Nat → Nat → Int32))} {res : Int32 × (Nat → Nat → Int32)}  (hk9 : ∀ (A0 : Nat → Nat → Int32) (l3 : Int32), k9 A0 l3 = some res → ∀ (H : Heap) (locs : List Loc) (ls : Array Slot), WD G DA (wX10 G h0 a0 f0 A0) H → va_S DA s.heap H locs → lv_has ls 4 [(0, .ref h0), (1, .int p1), (2, .int p2), (3, .int l3)] → W p l e rmX10_laysWatches s m args below meth c H locs 0 0 (MQ below (QI G DA res.1 (wX10 G h0 a0 f0 res.2)) args s 0 0 DA) (F0 m 9 ls [])) : ∀ (A0 : Nat → Nat → Int32) (l3 : Int32), f10_laysWatches_b9 f0 p1 p2  k9 A0 l3 = some res → ∀ (H : Heap) (locs : List Loc) (ls : Array Slot), WD G DA (wX10 G h0 a0 f0 A0) H → va_S DA s.heap H locs → lv_has ls 4 [(0, .ref h0), (1, .int p1), (2, .int p2), (3, .int l3)] → W p l e rmX10_laysWatches s m args below meth c H locs 0 0 (MQ below (QI G DA res.1 (wX10 G h0 a0 f0 res.2)) args s 0 0 DA) (F0 m 9 ls []) := by
  obtain ⟨hx, hb, hml, hown, hts⟩ := C0.1
  have hK := C0.2.2.2.1
  intro A0 l3 h _ _ _ hPD hS hl
  unfold f10_laysWatches_b9 at h
  refine lv_iload_n hx hb dX10_laysWatches_9 rfl (lv_at hl 3 rfl) ?_
  refine lv_if_lt (tgt := 92) hx hb dX10_laysWatches_10 (by decide) (fun cc1 => ?_) (fun cc1 => ?_)
  · have h := (if_pos cc1).symm.trans h
    refine lv_iload_n hx hb dX10_laysWatches_92 rfl (lv_at hl 3 rfl) ?_
    refine lv_iload_n hx hb dX10_laysWatches_93 rfl (lv_at hl 1 rfl) ?_
    refine lv_icmp_ne (tgt := 101) hx hb dX10_laysWatches_94 (by decide) (fun cc1 => ?_) (fun cc1 => ?_)
    · have h := (if_neg cc1).symm.trans h
      refine lv_iconst (v := 0) hx hb dX10_laysWatches_101 (by decide) ?_
      obtain rfl := Option.some.inj h
      exact eZ C0 hPD.1 hPD.2 hS rfl rfl dX10_laysWatches_102
    · have h := (if_pos cc1).symm.trans h
      refine lv_iconst (v := 1) hx hb dX10_laysWatches_97 (by decide) ?_
      refine lv_goto (tgt := 102) hx hb dX10_laysWatches_98 (by decide) ?_
      obtain rfl := Option.some.inj h
      exact eZ C0 hPD.1 hPD.2 hS rfl rfl dX10_laysWatches_102
  · have h := (if_neg cc1).symm.trans h
    refine lv_iload_n hx hb dX10_laysWatches_13 rfl (lv_at hl 3 rfl) ?_
    refine lv_iload_n hx hb dX10_laysWatches_14 rfl (lv_at hl 1 rfl) ?_
    refine lv_icmp_ge (tgt := 92) hx hb dX10_laysWatches_15 (by decide) (fun cc1 => ?_) (fun cc1 => ?_)
    · have h := (if_pos cc1).symm.trans h
      refine lv_iload_n hx hb dX10_laysWatches_92 rfl (lv_at hl 3 rfl) ?_
      refine lv_iload_n hx hb dX10_laysWatches_93 rfl (lv_at hl 1 rfl) ?_
      refine lv_icmp_ne (tgt := 101) hx hb dX10_laysWatches_94 (by decide) (fun cc1 => ?_) (fun cc1 => ?_)
      · have h := (if_neg cc1).symm.trans h
        refine lv_iconst (v := 0) hx hb dX10_laysWatches_101 (by decide) ?_
        obtain rfl := Option.some.inj h
        exact eZ C0 hPD.1 hPD.2 hS rfl rfl dX10_laysWatches_102
      · have h := (if_pos cc1).symm.trans h
        refine lv_iconst (v := 1) hx hb dX10_laysWatches_97 (by decide) ?_
        refine lv_goto (tgt := 102) hx hb dX10_laysWatches_98 (by decide) ?_
        obtain rfl := Option.some.inj h
        exact eZ C0 hPD.1 hPD.2 hS rfl rfl dX10_laysWatches_102
    · have h := (if_neg cc1).symm.trans h
      refine lv_aload_n hx hb dX10_laysWatches_18 rfl (lv_at hl 0 rfl) ?_
      refine va_get (D := G.1) (ci := 10) (v := .ref (a0 48)) (C := RX10) (T := TX10) (N := 52) hx hb hts inlX10 hown hK hPD.1 0 rfl rfl 48 (by decide) (hts _ gw_794) (fun _ h9 => h9) rfl dX10_laysWatches_19 ?_
      refine lv_iload_n hx hb dX10_laysWatches_22 rfl (lv_at hl 3 rfl) ?_
      refine lv_aload_n hx hb dX10_laysWatches_23 rfl (lv_at hl 0 rfl) ?_
      refine va_get (D := G.1) (ci := 10) (v := .ref (a0 48)) (C := RX10) (T := TX10) (N := 52) hx hb hts inlX10 hown hK hPD.1 0 rfl rfl 48 (by decide) (hts _ gw_794) (fun _ h9 => h9) rfl dX10_laysWatches_24 ?_
      refine lv_iload_n hx hb dX10_laysWatches_27 rfl (lv_at hl 3 rfl) ?_
      obtain ⟨hi_2, h⟩ := ob h
      refine va_iald hx hb hK hPD.1 31 1 rfl rfl hi_2 dX10_laysWatches_28 ?_
      refine lv_iconst (v := 1) hx hb dX10_laysWatches_29 (by decide) ?_
      refine lv_iadd hx hb dX10_laysWatches_30 ?_
      obtain ⟨hi_3, h⟩ := ob h
      refine va_iast hx hb hK hPD.1 hPD.2 hS 31 1 rfl rfl hi_3 dX10_laysWatches_31 (fun H locs hP hD hS => ?_)
      obtain ⟨A0_4, eA0_4, h⟩ := lvl h
      have hPD : WD G DA (wX10 G h0 a0 f0 A0_4) H := by rw [eA0_4]; exact ⟨hP, hD⟩
      clear eA0_4 hP hD
      refine lv_aload_n hx hb dX10_laysWatches_32 rfl (lv_at hl 0 rfl) ?_
      refine va_get (D := G.1) (ci := 10) (v := .ref (a0 48)) (C := RX10) (T := TX10) (N := 52) hx hb hts inlX10 hown hK hPD.1 0 rfl rfl 48 (by decide) (hts _ gw_794) (fun _ h9 => h9) rfl dX10_laysWatches_33 ?_
      refine lv_iload_n hx hb dX10_laysWatches_36 rfl (lv_at hl 3 rfl) ?_
      obtain ⟨hi_5, h⟩ := ob h
      refine va_iald hx hb hK hPD.1 31 1 rfl rfl hi_5 dX10_laysWatches_37 ?_
      refine lv_iload_n hx hb dX10_laysWatches_38 rfl (lv_at hl 2 rfl) ?_
      refine lv_icmp_ge (tgt := 58) hx hb dX10_laysWatches_39 (by decide) (fun cc1 => ?_) (fun cc1 => ?_)
      · have h := (if_pos cc1).symm.trans h
        refine lv_iload_n hx hb dX10_laysWatches_58 rfl (lv_at hl 3 rfl) ?_
        refine lv_iconst (v := 1) hx hb dX10_laysWatches_59 (by decide) ?_
        refine lv_isub hx hb dX10_laysWatches_60 ?_
        refine lv_istore_n (lv' := [(3, .int (l3 - 1)), (0, .ref h0), (1, .int p1), (2, .int p2)]) hx hb dX10_laysWatches_61 rfl hl (by decide) rfl (fun ls hl => ?_)
        refine lv_goto (tgt := 9) hx hb dX10_laysWatches_62 (by decide) ?_
        exact hk9 A0_4 (l3 - 1) h _ _ _ hPD hS (lv_sub hl [1, 2, 3, 0] rfl)
      · have h := (if_neg cc1).symm.trans h
        refine lv_aload_n hx hb dX10_laysWatches_42 rfl (lv_at hl 0 rfl) ?_
        refine va_get (D := G.1) (ci := 10) (v := .ref (a0 48)) (C := RX10) (T := TX10) (N := 52) hx hb hts inlX10 hown hK hPD.1 0 rfl rfl 48 (by decide) (hts _ gw_794) (fun _ h9 => h9) rfl dX10_laysWatches_43 ?_
        refine lv_iload_n hx hb dX10_laysWatches_46 rfl (lv_at hl 3 rfl) ?_
        obtain ⟨hi_6, h⟩ := ob h
        refine va_iald hx hb hK hPD.1 31 1 rfl rfl hi_6 dX10_laysWatches_47 ?_
        refine lv_aload_n hx hb dX10_laysWatches_48 rfl (lv_at hl 0 rfl) ?_
        refine lv_iload_n hx hb dX10_laysWatches_49 rfl (lv_at hl 3 rfl) ?_
        obtain ⟨q_7, hq_7, h⟩ := ob2 h
        refine kVI (As := [.int l3]) (rest := [.int (gx (A0_4 48) l3)]) C0 (kt_X10_highestOf l G h0 a0 f0 A0_4 l3 hq_7) gi_V_X10_350_X10_highestOf (n := 1) rfl (by decide +kernel) rfl ⟨rfl, rfl, Nat.le_of_ble_eq_true rfl, Nat.le_of_ble_eq_true rfl⟩ hPD hS 0 10 rfl rfl rfl [0, 1, 2, 3, 4, 5, 6, 7, 8, 9, 10, 11, 12, 13, 14, 15, 16, 17, 18, 19, 20, 21, 22, 23, 24, 25, 26, 27, 28, 29, 30, 31, 32, 33] [] [0, 1, 2, 3, 4, 5, 6, 7, 8, 9, 10, 11, 12, 13, 14, 15, 16, 17, 18, 19, 20, 21, 22, 23, 24, 25, 26, 27, 28, 29, 30, 31, 32, 33] (wr := ([] : va_W)) (wN := (wX10 G h0 a0 f0 A0_4)) rfl rfl rfl rfl rfl hl.1 (Nat.le_of_ble_eq_true rfl) dX10_laysWatches_50 (fun H locs hPD hS => ?_)
        refine lv_iconst (v := 1) hx hb dX10_laysWatches_53 (by decide) ?_
        refine lv_iadd hx hb dX10_laysWatches_54 ?_
        refine lv_icmp_le (tgt := 65) hx hb dX10_laysWatches_55 (by decide) (fun cc1 => ?_) (fun cc1 => ?_)
        · have h := (if_pos cc1).symm.trans h
          refine lv_aload_n hx hb dX10_laysWatches_65 rfl (lv_at hl 0 rfl) ?_
          refine lv_iload_n hx hb dX10_laysWatches_66 rfl (lv_at hl 3 rfl) ?_
          obtain ⟨q_8, hq_8, h⟩ := ob2 h
          refine kVI (As := [.int l3]) (rest := []) C0 (kt_X10_clashes l G h0 a0 f0 A0_4 l3 hq_8) gi_V_X10_353_X10_clashes (n := 1) rfl (by decide +kernel) rfl ⟨rfl, rfl, Nat.le_of_ble_eq_true rfl, Nat.le_of_ble_eq_true rfl⟩ hPD hS 0 10 rfl rfl rfl [0, 1, 2, 3, 4, 5, 6, 7, 8, 9, 10, 11, 12, 13, 14, 15, 16, 17, 18, 19, 20, 21, 22, 23, 24, 25, 26, 27, 28, 29, 30, 31, 32, 33] [] [0, 1, 2, 3, 4, 5, 6, 7, 8, 9, 10, 11, 12, 13, 14, 15, 16, 17, 18, 19, 20, 21, 22, 23, 24, 25, 26, 27, 28, 29, 30, 31, 32, 33] (wr := ([] : va_W)) (wN := (wX10 G h0 a0 f0 A0_4)) rfl rfl rfl rfl rfl hl.1 (Nat.le_of_ble_eq_true rfl) dX10_laysWatches_67 (fun H locs hPD hS => ?_)
          refine lv_if_ne (tgt := 9) hx hb dX10_laysWatches_70 (by decide) (fun cc1 => ?_) (fun cc1 => ?_)
          · have h := (if_neg cc1).symm.trans h
            exact hk9 A0_4 l3 h _ _ _ hPD hS (lv_sub hl [0, 1, 2, 3] rfl)
          · have h := (if_pos cc1).symm.trans h
            refine lv_iload_n hx hb dX10_laysWatches_73 rfl (lv_at hl 3 rfl) ?_
            refine lv_iconst (v := 1) hx hb dX10_laysWatches_74 (by decide) ?_
            refine lv_iadd hx hb dX10_laysWatches_75 ?_
            refine lv_istore_n (lv' := [(3, .int (l3 + 1)), (0, .ref h0), (1, .int p1), (2, .int p2)]) hx hb dX10_laysWatches_76 rfl hl (by decide) rfl (fun ls hl => ?_)
            refine lv_iload_n hx hb dX10_laysWatches_77 rfl (lv_at hl 0 rfl) ?_
            refine lv_iload_n hx hb dX10_laysWatches_78 rfl (lv_at hl 2 rfl) ?_
            refine lv_icmp_ge (tgt := 9) hx hb dX10_laysWatches_79 (by decide) (fun cc1 => ?_) (fun cc1 => ?_)
            · have h := (if_pos cc1).symm.trans h
              exact hk9 A0_4 (l3 + 1) h _ _ _ hPD hS (lv_sub hl [1, 2, 3, 0] rfl)
            · have h := (if_neg cc1).symm.trans h
              refine lv_aload_n hx hb dX10_laysWatches_82 rfl (lv_at hl 1 rfl) ?_
              refine va_get (D := G.1) (ci := 10) (v := .ref (a0 48)) (C := RX10) (T := TX10) (N := 52) hx hb hts inlX10 hown hK hPD.1 0 rfl rfl 48 (by decide) (hts _ gw_794) (fun _ h9 => h9) rfl dX10_laysWatches_83 ?_
              refine lv_iload_n hx hb dX10_laysWatches_86 rfl (lv_at hl 0 rfl) ?_
              refine lv_iconst (v := (-1)) hx hb dX10_laysWatches_87 (by decide) ?_
              obtain ⟨hi_9, h⟩ := ob h
              refine va_iast hx hb hK hPD.1 hPD.2 hS 31 1 rfl rfl hi_9 dX10_laysWatches_88 (fun H locs hP hD hS => ?_)
              obtain ⟨A0_10, eA0_10, h⟩ := lvl h
              have hPD : WD G DA (wX10 G h0 a0 f0 A0_10) H := by rw [eA0_10]; exact ⟨hP, hD⟩
              clear eA0_10 hP hD
              refine lv_goto (tgt := 9) hx hb dX10_laysWatches_89 (by decide) ?_
              exact hk9 A0_10 (l3 + 1) h _ _ _ hPD hS (lv_sub hl [1, 2, 3, 0] rfl)
        · have h := (if_neg cc1).symm.trans h
          refine lv_iload_n hx hb dX10_laysWatches_58 rfl (lv_at hl 3 rfl) ?_
          refine lv_iconst (v := 1) hx hb dX10_laysWatches_59 (by decide) ?_
          refine lv_isub hx hb dX10_laysWatches_60 ?_
          refine lv_istore_n (lv' := [(3, .int (l3 - 1)), (0, .ref h0), (1, .int p1), (2, .int p2)]) hx hb dX10_laysWatches_61 rfl hl (by decide) rfl (fun ls hl => ?_)
          refine lv_goto (tgt := 9) hx hb dX10_laysWatches_62 (by decide) ?_
          exact hk9 A0_4 (l3 - 1) h _ _ _ hPD hS (lv_sub hl [1, 2, 3, 0] rfl)
set_option maxRecDepth 100000 in
set_option maxHeartbeats 4000000 in
theorem ww_f10_laysWatches_l9  (C0 : Cx cX10_laysWatches 4 (some .boolean) RX10 p s m args meth c G DA) {h0 : Nat} {a0 : Nat → Nat} {f0 : Nat → Int32} {p1 : Int32} {p2 : Int32}   {res : Int32 × (Nat → Nat → Int32)}  : ∀ (n : Nat) (A0 : Nat → Nat → Int32) (l3 : Int32), f10_laysWatches_l9 f0 p1 p2  n A0 l3 = some res → ∀ (H : Heap) (locs : List Loc) (ls : Array Slot), WD G DA (wX10 G h0 a0 f0 A0) H → va_S DA s.heap H locs → lv_has ls 4 [(0, .ref h0), (1, .int p1), (2, .int p2), (3, .int l3)] → W p l e rmX10_laysWatches s m args below meth c H locs 0 0 (MQ below (QI G DA res.1 (wX10 G h0 a0 f0 res.2)) args s 0 0 DA) (F0 m 9 ls []) := by
  intro n
  induction n with
  | zero => intro A0 l3 h; cases h
  | succ n ih => intro A0 l3 h; exact ww_f10_laysWatches_b9 C0  ih A0 l3 h
set_option maxRecDepth 100000 in
set_option maxHeartbeats 4000000 in
theorem kt_X10_laysWatches (l : Launch) (G : Gp) (h0 : Nat) (a0 : Nat → Nat) (f0 : Nat → Int32) (A0 : Nat → Nat → Int32) (p1 : Int32) (p2 : Int32) : ∀ {r : Int32 × (Nat → Nat → Int32)}, f10_laysWatches f0 A0 p1 p2 = some r → CtrI l yX10_laysWatches cX10_laysWatches 4 (some .boolean) rmX10_laysWatches G [.ref h0, .int p1, .int p2] (wX10 G h0 a0 f0 A0) r.1 (wX10 G h0 a0 f0 r.2) := by
  intro res h
  refine ctrI_of (cc := cX10_laysWatches) (maxL := 4) (ret := (some .boolean)) (by decide +kernel) rfl (Nat.le_of_ble_eq_true rfl) (fun p e s m below meth c DA C0 hP hD ls hl => ?_)
  have hPD : WD G DA (wX10 G h0 a0 f0 A0) s.heap := ⟨hP, hD⟩
  have hS : va_S DA s.heap s.heap [] := va_S.rf
  have hl : lv_has ls 4 [(0, .ref h0), (1, .int p1), (2, .int p2)] := hl
  obtain ⟨hx, hb, hml, hown, hts⟩ := C0.1
  have hK := C0.2.2.2.1
  unfold f10_laysWatches at h
  refine lv_iconst (v := 0) hx hb dX10_laysWatches_0 (by decide) ?_
  refine lv_istore_n (lv' := [(3, .int 0), (0, .ref h0), (1, .int p1), (2, .int p2)]) hx hb dX10_laysWatches_1 rfl hl (by decide) rfl (fun ls hl => ?_)
  refine lv_aload_n hx hb dX10_laysWatches_2 rfl (lv_at hl 1 rfl) ?_
  refine va_get (D := G.1) (ci := 10) (v := .ref (a0 48)) (C := RX10) (T := TX10) (N := 52) hx hb hts inlX10 hown hK hPD.1 0 rfl rfl 48 (by decide) (hts _ gw_794) (fun _ h9 => h9) rfl dX10_laysWatches_3 ?_
  refine lv_iconst (v := 0) hx hb dX10_laysWatches_6 (by decide) ?_
  refine lv_iconst (v := (-1)) hx hb dX10_laysWatches_7 (by decide) ?_
  refine va_iast hx hb hK hPD.1 hPD.2 hS 31 1 rfl rfl (vin rfl) dX10_laysWatches_8 (fun H locs hP hD hS => ?_)
  obtain ⟨A0_1, eA0_1, h⟩ := lvl h
  have hPD : WD G DA (wX10 G h0 a0 f0 A0_1) H := by rw [eA0_1]; exact ⟨hP, hD⟩
  clear eA0_1 hP hD
  exact ww_f10_laysWatches_l9 C0 NF A0_1 0 h _ _ _ hPD hS (lv_sub hl [1, 2, 3, 0] rfl)
abbrev rmX10_watches : Room := { frames := 3, cells := 0, slots := 0, locals := 67 }
set_option maxRecDepth 100000 in
set_option maxHeartbeats 4000000 in
theorem ww_f10_watches_b94  (C0 : Cx cX10_watches 5 (some .int) RX10 p s m args meth c G DA) {h0 : Nat} {a0 : Nat → Nat} {f0 : Nat → Int32} {p1 : Int32}   {res : Int32 × (Nat → Nat → Int32)}  : ∀ (A0 : Nat → Nat → Int32) (l3 : Int32) (l4 : Int32), f10_watches_b94 f0 p1  A0 l3 l4 = some res → ∀ (H : Heap) (locs : List Loc) (ls : Array Slot), WD G DA (wX10 G h0 a0 f0 A0) H → va_S DA s.heap H locs → lv_has ls 5 [(0, .ref h0), (1, .int p1), (3, .int l3), (4, .int l4)] → W p l e rmX10_watches s m args below meth c H locs 0 0 (MQ below (QI G DA res.1 (wX10 G h0 a0 f0 res.2)) args s 0 0 DA) (F0 m 94 ls []) := by
  obtain ⟨hx, hb, hml, hown, hts⟩ := C0.1
  have hK := C0.2.2.2.1
  intro A0 l3 l4 h _ _ _ hPD hS hl
  unfold f10_watches_b94 at h
  refine lv_iload_n hx hb dX10_watches_94 rfl (lv_at hl 1 rfl) ?_
  refine lv_bipush (v := 100) hx hb dX10_watches_95 (by decide) ?_
  refine lv_icmp_ne (tgt := 105) hx hb dX10_watches_97 (by decide) (fun cc1 => ?_) (fun cc1 => ?_)
  · have h := (if_neg cc1).symm.trans h
    refine lv_aload_n hx hb dX10_watches_105 rfl (lv_at hl 0 rfl) ?_
    refine va_get (D := G.1) (ci := 10) (v := .ref (a0 48)) (C := RX10) (T := TX10) (N := 52) hx hb hts inlX10 hown hK hPD.1 0 rfl rfl 48 (by decide) (hts _ gw_794) (fun _ h9 => h9) rfl dX10_watches_106 ?_
    refine lv_iload_n hx hb dX10_watches_109 rfl (lv_at hl 2 rfl) ?_
    obtain ⟨hi_1, h⟩ := ob h
    refine va_iald hx hb hK hPD.1 31 1 rfl rfl hi_1 dX10_watches_110 ?_
    obtain rfl := Option.some.inj h
    exact eI C0 hPD.1 hPD.2 hS rfl dX10_watches_111
  · have h := (if_pos cc1).symm.trans h
    refine lv_iload hx hb dX10_watches_100 (lv_at hl 3 rfl) ?_
    refine lv_goto (tgt := 111) hx hb dX10_watches_102 (by decide) ?_
    obtain rfl := Option.some.inj h
    exact eI C0 hPD.1 hPD.2 hS rfl dX10_watches_111
set_option maxRecDepth 100000 in
set_option maxHeartbeats 4000000 in
theorem ww_f10_watches_b71  (C0 : Cx cX10_watches 5 (some .int) RX10 p s m args meth c G DA) {h0 : Nat} {a0 : Nat → Nat} {f0 : Nat → Int32} {p1 : Int32}  {k71 : (Nat → Nat → Int32) → Int32 → Int32 → Int32 → Option (Int32 × (Nat → Nat → Int32))} {res : Int32 × (Nat → Nat → Int32)}  (hk71 : ∀ (A0 : Nat → Nat → Int32) (l2 : Int32) (l3 : Int32) (l4 : Int32), k71 A0 l2 l3 l4 = some res → ∀ (H : Heap) (locs : List Loc) (ls : Array Slot), WD G DA (wX10 G h0 a0 f0 A0) H → va_S DA s.heap H locs → lv_has ls 5 [(0, .ref h0), (1, .int p1), (2, .int l2), (3, .int l3), (4, .int l4)] → W p l e rmX10_watches s m args below meth c H locs 0 0 (MQ below (QI G DA res.1 (wX10 G h0 a0 f0 res.2)) args s 0 0 DA) (F0 m 71 ls [])) : ∀ (A0 : Nat → Nat → Int32) (l2 : Int32) (l3 : Int32) (l4 : Int32), f10_watches_b71 f0 p1  k71 A0 l2 l3 l4 = some res → ∀ (H : Heap) (locs : List Loc) (ls : Array Slot), WD G DA (wX10 G h0 a0 f0 A0) H → va_S DA s.heap H locs → lv_has ls 5 [(0, .ref h0), (1, .int p1), (2, .int l2), (3, .int l3), (4, .int l4)] → W p l e rmX10_watches s m args below meth c H locs 0 0 (MQ below (QI G DA res.1 (wX10 G h0 a0 f0 res.2)) args s 0 0 DA) (F0 m 71 ls []) := by
  obtain ⟨hx, hb, hml, hown, hts⟩ := C0.1
  have hK := C0.2.2.2.1
  intro A0 l2 l3 l4 h _ _ _ hPD hS hl
  unfold f10_watches_b71 at h
  refine lv_iload_n hx hb dX10_watches_71 rfl (lv_at hl 2 rfl) ?_
  refine lv_if_le (tgt := 94) hx hb dX10_watches_72 (by decide) (fun cc1 => ?_) (fun cc1 => ?_)
  · have h := (if_pos cc1).symm.trans h
    exact ww_f10_watches_b94 C0 A0 l3 l4 h _ _ _ hPD hS (lv_sub hl [0, 1, 3, 4] rfl)
  · have h := (if_neg cc1).symm.trans h
    refine lv_aload_n hx hb dX10_watches_75 rfl (lv_at hl 0 rfl) ?_
    refine lv_iload_n hx hb dX10_watches_76 rfl (lv_at hl 2 rfl) ?_
    refine lv_iload hx hb dX10_watches_77 (lv_at hl 4 rfl) ?_
    obtain ⟨q_2, hq_2, h⟩ := ob2 h
    refine kVI (As := [.int l2, .int l4]) (rest := []) C0 (kt_X10_laysWatches l G h0 a0 f0 A0 l2 l4 hq_2) gi_V_X10_356_X10_laysWatches (n := 2) rfl (by decide +kernel) rfl ⟨rfl, rfl, Nat.le_of_ble_eq_true rfl, Nat.le_of_ble_eq_true rfl⟩ hPD hS 0 10 rfl rfl rfl [0, 1, 2, 3, 4, 5, 6, 7, 8, 9, 10, 11, 12, 13, 14, 15, 16, 17, 18, 19, 20, 21, 22, 23, 24, 25, 26, 27, 28, 29, 30, 31, 32, 33] [] [0, 1, 2, 3, 4, 5, 6, 7, 8, 9, 10, 11, 12, 13, 14, 15, 16, 17, 18, 19, 20, 21, 22, 23, 24, 25, 26, 27, 28, 29, 30, 31, 32, 33] (wr := ([] : va_W)) (wN := (wX10 G h0 a0 f0 q_2.2)) rfl rfl rfl rfl rfl hl.1 (Nat.le_of_ble_eq_true rfl) dX10_watches_79 (fun H locs hPD hS => ?_)
    refine lv_if_ne (tgt := 94) hx hb dX10_watches_82 (by decide) (fun cc1 => ?_) (fun cc1 => ?_)
    · have h := (if_neg cc1).symm.trans h
      exact ww_f10_watches_b94 C0 q_2.2 l3 l4 h _ _ _ hPD hS (lv_sub hl [0, 1, 3, 4] rfl)
    · have h := (if_pos cc1).symm.trans h
      refine lv_iload hx hb dX10_watches_85 (lv_at hl 4 rfl) ?_
      refine lv_iconst (v := 1) hx hb dX10_watches_87 (by decide) ?_
      refine lv_iadd hx hb dX10_watches_88 ?_
      refine lv_istore (lv' := [(4, .int (l4 + 1)), (0, .ref h0), (1, .int p1), (2, .int l2), (3, .int l3)]) hx hb dX10_watches_89 hl (by decide) rfl (fun ls hl => ?_)
      refine lv_goto (tgt := 71) hx hb dX10_watches_91 (by decide) ?_
      exact hk71 q_2.2 l2 l3 (l4 + 1) h _ _ _ hPD hS (lv_sub hl [1, 2, 3, 4, 0] rfl)
set_option maxRecDepth 100000 in
set_option maxHeartbeats 4000000 in
theorem ww_f10_watches_l71  (C0 : Cx cX10_watches 5 (some .int) RX10 p s m args meth c G DA) {h0 : Nat} {a0 : Nat → Nat} {f0 : Nat → Int32} {p1 : Int32}   {res : Int32 × (Nat → Nat → Int32)}  : ∀ (n : Nat) (A0 : Nat → Nat → Int32) (l2 : Int32) (l3 : Int32) (l4 : Int32), f10_watches_l71 f0 p1  n A0 l2 l3 l4 = some res → ∀ (H : Heap) (locs : List Loc) (ls : Array Slot), WD G DA (wX10 G h0 a0 f0 A0) H → va_S DA s.heap H locs → lv_has ls 5 [(0, .ref h0), (1, .int p1), (2, .int l2), (3, .int l3), (4, .int l4)] → W p l e rmX10_watches s m args below meth c H locs 0 0 (MQ below (QI G DA res.1 (wX10 G h0 a0 f0 res.2)) args s 0 0 DA) (F0 m 71 ls []) := by
  intro n
  induction n with
  | zero => intro A0 l2 l3 l4 h; cases h
  | succ n ih => intro A0 l2 l3 l4 h; exact ww_f10_watches_b71 C0  ih A0 l2 l3 l4 h
set_option maxRecDepth 100000 in
set_option maxHeartbeats 4000000 in
theorem ww_f10_watches_b50  (C0 : Cx cX10_watches 5 (some .int) RX10 p s m args meth c G DA) {h0 : Nat} {a0 : Nat → Nat} {f0 : Nat → Int32} {p1 : Int32}  {k23 : (Nat → Nat → Int32) → Int32 → Int32 → Int32 → Option (Int32 × (Nat → Nat → Int32))} {res : Int32 × (Nat → Nat → Int32)} (hk23 : ∀ (A0 : Nat → Nat → Int32) (l2 : Int32) (l3 : Int32) (l4 : Int32), k23 A0 l2 l3 l4 = some res → ∀ (H : Heap) (locs : List Loc) (ls : Array Slot), WD G DA (wX10 G h0 a0 f0 A0) H → va_S DA s.heap H locs → lv_has ls 5 [(0, .ref h0), (1, .int p1), (2, .int l2), (3, .int l3), (4, .int l4)] → W p l e rmX10_watches s m args below meth c H locs 0 0 (MQ below (QI G DA res.1 (wX10 G h0 a0 f0 res.2)) args s 0 0 DA) (F0 m 23 ls [])) : ∀ (A0 : Nat → Nat → Int32) (l2 : Int32) (l3 : Int32) (l4 : Int32), f10_watches_b50 f0 p1 k23 A0 l2 l3 l4 = some res → ∀ (H : Heap) (locs : List Loc) (ls : Array Slot), WD G DA (wX10 G h0 a0 f0 A0) H → va_S DA s.heap H locs → lv_has ls 5 [(0, .ref h0), (1, .int p1), (2, .int l2), (3, .int l3), (4, .int l4)] → W p l e rmX10_watches s m args below meth c H locs 0 0 (MQ below (QI G DA res.1 (wX10 G h0 a0 f0 res.2)) args s 0 0 DA) (F0 m 50 ls []) := by
  obtain ⟨hx, hb, hml, hown, hts⟩ := C0.1
  have hK := C0.2.2.2.1
  intro A0 l2 l3 l4 h _ _ _ hPD hS hl
  unfold f10_watches_b50 at h
  refine lv_aload_n hx hb dX10_watches_50 rfl (lv_at hl 0 rfl) ?_
  refine va_get (D := G.1) (ci := 10) (v := .ref (a0 49)) (C := RX10) (T := TX10) (N := 52) hx hb hts inlX10 hown hK hPD.1 0 rfl rfl 49 (by decide) (hts _ gw_795) (fun _ h9 => h9) rfl dX10_watches_51 ?_
  refine lv_iload_n hx hb dX10_watches_54 rfl (lv_at hl 2 rfl) ?_
  refine lv_iload hx hb dX10_watches_55 (lv_at hl 4 rfl) ?_
  obtain ⟨hi_3, h⟩ := ob h
  refine va_iast hx hb hK hPD.1 hPD.2 hS 32 1 rfl rfl hi_3 dX10_watches_57 (fun H locs hP hD hS => ?_)
  obtain ⟨A0_4, eA0_4, h⟩ := lvl h
  have hPD : WD G DA (wX10 G h0 a0 f0 A0_4) H := by rw [eA0_4]; exact ⟨hP, hD⟩
  clear eA0_4 hP hD
  refine lv_iload_n hx hb dX10_watches_58 rfl (lv_at hl 2 rfl) ?_
  refine lv_iconst (v := 1) hx hb dX10_watches_59 (by decide) ?_
  refine lv_iadd hx hb dX10_watches_60 ?_
  refine lv_istore_n (lv' := [(2, .int (l2 + 1)), (0, .ref h0), (1, .int p1), (3, .int l3), (4, .int l4)]) hx hb dX10_watches_61 rfl hl (by decide) rfl (fun ls hl => ?_)
  refine lv_iinc (v := l4 + 1) (lv' := [(4, .int (l4 + 1)), (2, .int (l2 + 1)), (0, .ref h0), (1, .int p1), (3, .int l3)]) hx hb dX10_watches_62 hl (k := 4) rfl rfl (by decide) rfl (fun ls hl => ?_)
  refine lv_goto (tgt := 23) hx hb dX10_watches_65 (by decide) ?_
  exact hk23 A0_4 (l2 + 1) l3 (l4 + 1) h _ _ _ hPD hS (lv_sub hl [2, 3, 1, 4, 0] rfl)
set_option maxRecDepth 100000 in
set_option maxHeartbeats 4000000 in
theorem ww_f10_watches_b23  (C0 : Cx cX10_watches 5 (some .int) RX10 p s m args meth c G DA) {h0 : Nat} {a0 : Nat → Nat} {f0 : Nat → Int32} {p1 : Int32}  {k23 : (Nat → Nat → Int32) → Int32 → Int32 → Int32 → Option (Int32 × (Nat → Nat → Int32))} {res : Int32 × (Nat → Nat → Int32)}  (hk23 : ∀ (A0 : Nat → Nat → Int32) (l2 : Int32) (l3 : Int32) (l4 : Int32), k23 A0 l2 l3 l4 = some res → ∀ (H : Heap) (locs : List Loc) (ls : Array Slot), WD G DA (wX10 G h0 a0 f0 A0) H → va_S DA s.heap H locs → lv_has ls 5 [(0, .ref h0), (1, .int p1), (2, .int l2), (3, .int l3), (4, .int l4)] → W p l e rmX10_watches s m args below meth c H locs 0 0 (MQ below (QI G DA res.1 (wX10 G h0 a0 f0 res.2)) args s 0 0 DA) (F0 m 23 ls [])) : ∀ (A0 : Nat → Nat → Int32) (l2 : Int32) (l3 : Int32) (l4 : Int32), f10_watches_b23 f0 p1  k23 A0 l2 l3 l4 = some res → ∀ (H : Heap) (locs : List Loc) (ls : Array Slot), WD G DA (wX10 G h0 a0 f0 A0) H → va_S DA s.heap H locs → lv_has ls 5 [(0, .ref h0), (1, .int p1), (2, .int l2), (3, .int l3), (4, .int l4)] → W p l e rmX10_watches s m args below meth c H locs 0 0 (MQ below (QI G DA res.1 (wX10 G h0 a0 f0 res.2)) args s 0 0 DA) (F0 m 23 ls []) := by
  obtain ⟨hx, hb, hml, hown, hts⟩ := C0.1
  have hK := C0.2.2.2.1
  intro A0 l2 l3 l4 h _ _ _ hPD hS hl
  unfold f10_watches_b23 at h
  refine lv_iload hx hb dX10_watches_23 (lv_at hl 4 rfl) ?_
  refine lv_bipush (v := 16) hx hb dX10_watches_25 (by decide) ?_
  refine lv_icmp_ge (tgt := 68) hx hb dX10_watches_27 (by decide) (fun cc1 => ?_) (fun cc1 => ?_)
  · have h := (if_pos cc1).symm.trans h
    refine lv_iconst (v := 0) hx hb dX10_watches_68 (by decide) ?_
    refine lv_istore (lv' := [(4, .int 0), (0, .ref h0), (1, .int p1), (2, .int l2), (3, .int l3)]) hx hb dX10_watches_69 hl (by decide) rfl (fun ls hl => ?_)
    exact ww_f10_watches_l71 C0 NF A0 l2 l3 0 h _ _ _ hPD hS (lv_sub hl [1, 2, 3, 4, 0] rfl)
  · have h := (if_neg cc1).symm.trans h
    refine lv_aload_n hx hb dX10_watches_30 rfl (lv_at hl 0 rfl) ?_
    refine lv_iload hx hb dX10_watches_31 (lv_at hl 4 rfl) ?_
    refine kVI (As := [.int l4]) (rest := []) C0 (kt_X10_isTold l G h0 a0 f0 A0 l4) gi_V_X10_128_X10_isTold (n := 1) rfl (by decide +kernel) rfl ⟨rfl, rfl, Nat.le_of_ble_eq_true rfl, Nat.le_of_ble_eq_true rfl⟩ hPD hS 0 10 rfl rfl rfl [0, 1, 2, 3, 4, 5, 6, 7, 8, 9, 10, 11, 12, 13, 14, 15, 16, 17, 18, 19, 20, 21, 22, 23, 24, 25, 26, 27, 28, 29, 30, 31, 32, 33] [] [0, 1, 2, 3, 4, 5, 6, 7, 8, 9, 10, 11, 12, 13, 14, 15, 16, 17, 18, 19, 20, 21, 22, 23, 24, 25, 26, 27, 28, 29, 30, 31, 32, 33] (wr := ([] : va_W)) (wN := (wX10 G h0 a0 f0 A0)) rfl rfl rfl rfl rfl hl.1 (Nat.le_of_ble_eq_true rfl) dX10_watches_33 (fun H locs hPD hS => ?_)
    refine lv_if_ne (tgt := 42) hx hb dX10_watches_36 (by decide) (fun cc1 => ?_) (fun cc1 => ?_)
    · have h := (if_neg cc1).symm.trans h
      refine lv_iload hx hb dX10_watches_42 (lv_at hl 4 rfl) ?_
      refine lv_iload_n hx hb dX10_watches_44 rfl (lv_at hl 1 rfl) ?_
      refine lv_icmp_ne (tgt := 50) hx hb dX10_watches_45 (by decide) (fun cc1 => ?_) (fun cc1 => ?_)
      · have h := (if_neg cc1).symm.trans h
        exact ww_f10_watches_b50 C0 hk23 A0 l2 l3 l4 h _ _ _ hPD hS (lv_sub hl [0, 1, 2, 3, 4] rfl)
      · have h := (if_pos cc1).symm.trans h
        refine lv_iload_n hx hb dX10_watches_48 rfl (lv_at hl 2 rfl) ?_
        refine lv_istore_n (lv' := [(3, .int l2), (0, .ref h0), (1, .int p1), (2, .int l2), (4, .int l4)]) hx hb dX10_watches_49 rfl hl (by decide) rfl (fun ls hl => ?_)
        exact ww_f10_watches_b50 C0 hk23 A0 l2 l2 l4 h _ _ _ hPD hS (lv_sub hl [1, 2, 3, 0, 4] rfl)
    · have h := (if_pos cc1).symm.trans h
      refine lv_goto (tgt := 62) hx hb dX10_watches_39 (by decide) ?_
      refine lv_iinc (v := l4 + 1) (lv' := [(4, .int (l4 + 1)), (0, .ref h0), (1, .int p1), (2, .int l2), (3, .int l3)]) hx hb dX10_watches_62 hl (k := 4) rfl rfl (by decide) rfl (fun ls hl => ?_)
      refine lv_goto (tgt := 23) hx hb dX10_watches_65 (by decide) ?_
      exact hk23 A0 l2 l3 (l4 + 1) h _ _ _ hPD hS (lv_sub hl [1, 2, 3, 4, 0] rfl)
end WALK
