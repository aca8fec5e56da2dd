section WALK
variable {p : Program} {l : Launch} {e : Env} {s : State} {m : MethodId} {args : Array Value} {below : List Frame} {meth : Method} {c : Code} {G : Gp} {DA : Nat → Prop}
abbrev rmX10_watchedBy : Room := { frames := 1, cells := 0, slots := 0, locals := 21 }
set_option maxRecDepth 100000 in
set_option maxHeartbeats 4000000 in
theorem ww_f10_watchedBy_b4  (C0 : Cx cX10_watchedBy 4 (some .int) RX10 p s m args meth c G DA) {h0 : Nat} {a0 : Nat → Nat} {f0 : Nat → Int32} {A0 : Nat → Nat → Int32} {p1 : Int32}  {k4 : Int32 → Int32 → Option (Int32)} {res : Int32}  (hk4 : ∀ (l2 : Int32) (l3 : Int32), k4 l2 l3 = some res → ∀ (H : Heap) (locs : List Loc) (ls : Array Slot), WD G DA (wX10 G h0 a0 f0 A0) H → va_S DA s.heap H locs → lv_has ls 4 [(0, .ref h0), (1, .int p1), (2, .int l2), (3, .int l3)] → W p l e rmX10_watchedBy s m args below meth c H locs 0 0 (MQ below (QI G DA res (wX10 G h0 a0 f0 A0)) args s 0 0 DA) (F0 m 4 ls [])) : ∀ (l2 : Int32) (l3 : Int32), f10_watchedBy_b4 f0 A0 p1  k4 l2 l3 = some res → ∀ (H : Heap) (locs : List Loc) (ls : Array Slot), WD G DA (wX10 G h0 a0 f0 A0) H → va_S DA s.heap H locs → lv_has ls 4 [(0, .ref h0), (1, .int p1), (2, .int l2), (3, .int l3)] → W p l e rmX10_watchedBy s m args below meth c H locs 0 0 (MQ below (QI G DA res (wX10 G h0 a0 f0 A0)) args s 0 0 DA) (F0 m 4 ls []) := by
  obtain ⟨hx, hb, hml, hown, hts⟩ := C0.1
  have hK := C0.2.2.2.1
  intro l2 l3 h _ _ _ hPD hS hl
  unfold f10_watchedBy_b4 at h
  refine lv_iload_n hx hb dX10_watchedBy_4 rfl (lv_at hl 3 rfl) ?_
  refine lv_bipush (v := 16) hx hb dX10_watchedBy_5 (by decide) ?_
  refine lv_icmp_ge (tgt := 33) hx hb dX10_watchedBy_7 (by decide) (fun cc1 => ?_) (fun cc1 => ?_)
  · have h := (if_pos cc1).symm.trans h
    refine lv_iload_n hx hb dX10_watchedBy_33 rfl (lv_at hl 2 rfl) ?_
    obtain rfl := Option.some.inj h
    exact eI C0 hPD.1 hPD.2 hS rfl dX10_watchedBy_34
  · have h := (if_neg cc1).symm.trans h
    refine lv_iload_n hx hb dX10_watchedBy_10 rfl (lv_at hl 1 rfl) ?_
    refine lv_iload_n hx hb dX10_watchedBy_11 rfl (lv_at hl 3 rfl) ?_
    refine kSI (As := [.int p1, .int l3]) (rest := []) C0 (kt_X10_has l G  p1 l3) gi_S_X10_120_X10_has (n := 2) rfl (by decide +kernel) ⟨rfl, rfl, Nat.le_of_ble_eq_true rfl, Nat.le_of_ble_eq_true rfl⟩ hPD hS [] [0, 1, 2, 3, 4, 5, 6, 7, 8, 9, 10, 11, 12, 13, 14, 15, 16, 17, 18, 19, 20, 21, 22, 23, 24, 25, 26, 27, 28, 29, 30, 31, 32, 33] [0, 1, 2, 3, 4, 5, 6, 7, 8, 9, 10, 11, 12, 13, 14, 15, 16, 17, 18, 19, 20, 21, 22, 23, 24, 25, 26, 27, 28, 29, 30, 31, 32, 33] (wN := (wX10 G h0 a0 f0 A0)) rfl rfl rfl rfl rfl hl.1 (Nat.le_of_ble_eq_true rfl) dX10_watchedBy_12 (fun H locs hPD hS => ?_)
    refine lv_if_eq (tgt := 27) hx hb dX10_watchedBy_15 (by decide) (fun cc1 => ?_) (fun cc1 => ?_)
    · have h := (if_pos cc1).symm.trans h
      refine lv_iinc (v := l3 + 1) (lv' := [(3, .int (l3 + 1)), (0, .ref h0), (1, .int p1), (2, .int l2)]) hx hb dX10_watchedBy_27 hl (k := 3) rfl rfl (by decide) rfl (fun ls hl => ?_)
      refine lv_goto (tgt := 4) hx hb dX10_watchedBy_30 (by decide) ?_
      exact hk4 l2 (l3 + 1) h _ _ _ hPD hS (lv_sub hl [1, 2, 3, 0] rfl)
    · have h := (if_neg cc1).symm.trans h
      refine lv_iload_n hx hb dX10_watchedBy_18 rfl (lv_at hl 2 rfl) ?_
      refine lv_aload_n hx hb dX10_watchedBy_19 rfl (lv_at hl 0 rfl) ?_
      refine va_get (D := G.1) (ci := 10) (v := .ref (a0 3)) (C := RX10) (T := TX10) (N := 52) hx hb hts inlX10 hown hK hPD.1 0 rfl rfl 3 (by decide) (hts _ gw_666) (fun _ h9 => h9) rfl dX10_watchedBy_20 ?_
      refine lv_iload_n hx hb dX10_watchedBy_23 rfl (lv_at hl 3 rfl) ?_
      obtain ⟨hi_1, h⟩ := ob h
      refine va_iald hx hb hK hPD.1 4 1 rfl rfl hi_1 dX10_watchedBy_24 ?_
      refine lv_ior hx hb dX10_watchedBy_25 ?_
      refine lv_istore_n (lv' := [(2, .int (l2 ||| (gx (A0 3) l3))), (0, .ref h0), (1, .int p1), (3, .int l3)]) hx hb dX10_watchedBy_26 rfl hl (by decide) rfl (fun ls hl => ?_)
      refine lv_iinc (v := l3 + 1) (lv' := [(3, .int (l3 + 1)), (2, .int (l2 ||| (gx (A0 3) l3))), (0, .ref h0), (1, .int p1)]) hx hb dX10_watchedBy_27 hl (k := 3) rfl rfl (by decide) rfl (fun ls hl => ?_)
      refine lv_goto (tgt := 4) hx hb dX10_watchedBy_30 (by decide) ?_
      exact hk4 (l2 ||| (gx (A0 3) l3)) (l3 + 1) h _ _ _ hPD hS (lv_sub hl [2, 3, 1, 0] rfl)
set_option maxRecDepth 100000 in
set_option maxHeartbeats 4000000 in
theorem ww_f10_watchedBy_l4  (C0 : Cx cX10_watchedBy 4 (some .int) RX10 p s m args meth c G DA) {h0 : Nat} {a0 : Nat → Nat} {f0 : Nat → Int32} {A0 : Nat → Nat → Int32} {p1 : Int32}   {res : Int32}  : ∀ (n : Nat) (l2 : Int32) (l3 : Int32), f10_watchedBy_l4 f0 A0 p1  n l2 l3 = some res → ∀ (H : Heap) (locs : List Loc) (ls : Array Slot), WD G DA (wX10 G h0 a0 f0 A0) H → va_S DA s.heap H locs → lv_has ls 4 [(0, .ref h0), (1, .int p1), (2, .int l2), (3, .int l3)] → W p l e rmX10_watchedBy s m args below meth c H locs 0 0 (MQ below (QI G DA res (wX10 G h0 a0 f0 A0)) args s 0 0 DA) (F0 m 4 ls []) := by
  intro n
  induction n with
  | zero => intro l2 l3 h; cases h
  | succ n ih => intro l2 l3 h; exact ww_f10_watchedBy_b4 C0  ih l2 l3 h
set_option maxRecDepth 100000 in
set_option maxHeartbeats 4000000 in
theorem kt_X10_watchedBy (l : Launch) (G : Gp) (h0 : Nat) (a0 : Nat → Nat) (f0 : Nat → Int32) (A0 : Nat → Nat → Int32) (p1 : Int32) : ∀ {r : Int32}, f10_watchedBy f0 A0 p1 = some r → CtrI l yX10_watchedBy cX10_watchedBy 4 (some .int) rmX10_watchedBy G [.ref h0, .int p1] (wX10 G h0 a0 f0 A0) r (wX10 G h0 a0 f0 A0) := by
  intro res h
  refine ctrI_of (cc := cX10_watchedBy) (maxL := 4) (ret := (some .int)) (by decide +kernel) rfl (Nat.le_of_ble_eq_true rfl) (fun p e s m below meth c DA C0 hP hD ls hl => ?_)
  have hPD : WD G DA (wX10 G h0 a0 f0 A0) s.heap := ⟨hP, hD⟩
  have hS : va_S DA s.heap s.heap [] := va_S.rf
  have hl : lv_has ls 4 [(0, .ref h0), (1, .int p1)] := hl
  obtain ⟨hx, hb, hml, hown, hts⟩ := C0.1
  have hK := C0.2.2.2.1
  unfold f10_watchedBy at h
  refine lv_iload_n hx hb dX10_watchedBy_0 rfl (lv_at hl 1 rfl) ?_
  refine lv_istore_n (lv' := [(2, .int p1), (0, .ref h0), (1, .int p1)]) hx hb dX10_watchedBy_1 rfl hl (by decide) rfl (fun ls hl => ?_)
  refine lv_iconst (v := 0) hx hb dX10_watchedBy_2 (by decide) ?_
  refine lv_istore_n (lv' := [(3, .int 0), (2, .int p1), (0, .ref h0), (1, .int p1)]) hx hb dX10_watchedBy_3 rfl hl (by decide) rfl (fun ls hl => ?_)
  exact ww_f10_watchedBy_l4 C0 NF p1 0 h _ _ _ hPD hS (lv_sub hl [2, 3, 1, 0] rfl)
abbrev rmX10_posts : Room := { frames := 2, cells := 0, slots := 0, locals := 44 }
set_option maxRecDepth 100000 in
set_option maxHeartbeats 4000000 in
theorem ww_f10_posts_b67  (C0 : Cx cX10_posts 4 (some .int) RX10 p s m args meth c G DA) {h0 : Nat} {a0 : Nat → Nat} {f0 : Nat → Int32} {A0 : Nat → Nat → Int32} {p1 : Int32}  {k18 : Int32 → Int32 → Option (Int32)} {res : Int32} (hk18 : ∀ (l2 : Int32) (l3 : Int32), k18 l2 l3 = some res → ∀ (H : Heap) (locs : List Loc) (ls : Array Slot), WD G DA (wX10 G h0 a0 f0 A0) H → va_S DA s.heap H locs → lv_has ls 4 [(0, .ref h0), (1, .int p1), (2, .int l2), (3, .int l3)] → W p l e rmX10_posts s m args below meth c H locs 0 0 (MQ below (QI G DA res (wX10 G h0 a0 f0 A0)) args s 0 0 DA) (F0 m 18 ls [])) : ∀ (l2 : Int32) (l3 : Int32), f10_posts_b67 f0 A0 p1 k18 l2 l3 = some res → ∀ (H : Heap) (locs : List Loc) (ls : Array Slot), WD G DA (wX10 G h0 a0 f0 A0) H → va_S DA s.heap H locs → lv_has ls 4 [(0, .ref h0), (1, .int p1), (2, .int l2), (3, .int l3)] → W p l e rmX10_posts s m args below meth c H locs 0 0 (MQ below (QI G DA res (wX10 G h0 a0 f0 A0)) args s 0 0 DA) (F0 m 67 ls []) := by
  obtain ⟨hx, hb, hml, hown, hts⟩ := C0.1
  have hK := C0.2.2.2.1
  intro l2 l3 h _ _ _ hPD hS hl
  unfold f10_posts_b67 at h
  refine lv_aload_n hx hb dX10_posts_67 rfl (lv_at hl 0 rfl) ?_
  refine va_get (D := G.1) (ci := 10) (v := .int (f0 6)) (C := RX10) (T := TX10) (N := 52) hx hb hts inlX10 hown hK hPD.1 0 rfl rfl 6 (by decide) (hts _ gw_535) (fun _ h9 => h9) rfl dX10_posts_68 ?_
  refine lv_aload_n hx hb dX10_posts_71 rfl (lv_at hl 0 rfl) ?_
  refine lv_iload_n hx hb dX10_posts_72 rfl (lv_at hl 3 rfl) ?_
  obtain ⟨q_6, hq_6, h⟩ := ob2 h
  refine kVI (As := [.int l3]) (rest := [.int (f0 6)]) C0 (kt_X10_watchedBy l G h0 a0 f0 A0 l3 hq_6) gi_V_X10_335_X10_watchedBy (n := 1) rfl (by decide +kernel) rfl ⟨rfl, rfl, Nat.le_of_ble_eq_true rfl, Nat.le_of_ble_eq_true rfl⟩ hPD hS 0 10 rfl rfl rfl [0, 1, 2, 3, 4, 5, 6, 7, 8, 9, 10, 11, 12, 13, 14, 15, 16, 17, 18, 19, 20, 21, 22, 23, 24, 25, 26, 27, 28, 29, 30, 31, 32, 33] [] [0, 1, 2, 3, 4, 5, 6, 7, 8, 9, 10, 11, 12, 13, 14, 15, 16, 17, 18, 19, 20, 21, 22, 23, 24, 25, 26, 27, 28, 29, 30, 31, 32, 33] (wN := (wX10 G h0 a0 f0 A0)) rfl rfl rfl rfl rfl hl.1 (Nat.le_of_ble_eq_true rfl) dX10_posts_73 (fun H locs hPD hS => ?_)
  refine lv_iconst (v := (-1)) hx hb dX10_posts_76 (by decide) ?_
  refine lv_ixor hx hb dX10_posts_77 ?_
  refine lv_iand hx hb dX10_posts_78 ?_
  refine lv_if_ne (tgt := 84) hx hb dX10_posts_79 (by decide) (fun cc1 => ?_) (fun cc1 => ?_)
  · have h := (if_neg cc1).symm.trans h
    refine lv_iinc (v := l3 + 1) (lv' := [(3, .int (l3 + 1)), (0, .ref h0), (1, .int p1), (2, .int l2)]) hx hb dX10_posts_84 hl (k := 3) rfl rfl (by decide) rfl (fun ls hl => ?_)
    refine lv_goto (tgt := 18) hx hb dX10_posts_87 (by decide) ?_
    exact hk18 l2 (l3 + 1) h _ _ _ hPD hS (lv_sub hl [1, 2, 3, 0] rfl)
  · have h := (if_pos cc1).symm.trans h
    refine lv_iload_n hx hb dX10_posts_82 rfl (lv_at hl 3 rfl) ?_
    refine lv_istore_n (lv' := [(2, .int l3), (0, .ref h0), (1, .int p1), (3, .int l3)]) hx hb dX10_posts_83 rfl hl (by decide) rfl (fun ls hl => ?_)
    refine lv_iinc (v := l3 + 1) (lv' := [(3, .int (l3 + 1)), (2, .int l3), (0, .ref h0), (1, .int p1)]) hx hb dX10_posts_84 hl (k := 3) rfl rfl (by decide) rfl (fun ls hl => ?_)
    refine lv_goto (tgt := 18) hx hb dX10_posts_87 (by decide) ?_
    exact hk18 l3 (l3 + 1) h _ _ _ hPD hS (lv_sub hl [2, 3, 1, 0] rfl)
set_option maxRecDepth 100000 in
set_option maxHeartbeats 4000000 in
theorem ww_f10_posts_b18  (C0 : Cx cX10_posts 4 (some .int) RX10 p s m args meth c G DA) {h0 : Nat} {a0 : Nat → Nat} {f0 : Nat → Int32} {A0 : Nat → Nat → Int32} {p1 : Int32}  {k18 : Int32 → Int32 → Option (Int32)} {res : Int32}  (hk18 : ∀ (l2 : Int32) (l3 : Int32), k18 l2 l3 = some res → ∀ (H : Heap) (locs : List Loc) (ls : Array Slot), WD G DA (wX10 G h0 a0 f0 A0) H → va_S DA s.heap H locs → lv_has ls 4 [(0, .ref h0), (1, .int p1), (2, .int l2), (3, .int l3)] → W p l e rmX10_posts s m args below meth c H locs 0 0 (MQ below (QI G DA res (wX10 G h0 a0 f0 A0)) args s 0 0 DA) (F0 m 18 ls [])) : ∀ (l2 : Int32) (l3 : Int32), f10_posts_b18 f0 A0 p1  k18 l2 l3 = some res → ∀ (H : Heap) (locs : List Loc) (ls : Array Slot), WD G DA (wX10 G h0 a0 f0 A0) H → va_S DA s.heap H locs → lv_has ls 4 [(0, .ref h0), (1, .int p1), (2, .int l2), (3, .int l3)] → W p l e rmX10_posts s m args below meth c H locs 0 0 (MQ below (QI G DA res (wX10 G h0 a0 f0 A0)) args s 0 0 DA) (F0 m 18 ls []) := by
  obtain ⟨hx, hb, hml, hown, hts⟩ := C0.1
  have hK := C0.2.2.2.1
  intro l2 l3 h _ _ _ hPD hS hl
  unfold f10_posts_b18 at h
  refine lv_iload_n hx hb dX10_posts_18 rfl (lv_at hl 3 rfl) ?_
  refine lv_aload_n hx hb dX10_posts_19 rfl (lv_at hl 0 rfl) ?_
  refine va_get (D := G.1) (ci := 10) (v := .int (f0 6)) (C := RX10) (T := TX10) (N := 52) hx hb hts inlX10 hown hK hPD.1 0 rfl rfl 6 (by decide) (hts _ gw_535) (fun _ h9 => h9) rfl dX10_posts_20 ?_
  refine lv_icmp_gt (tgt := 90) hx hb dX10_posts_23 (by decide) (fun cc1 => ?_) (fun cc1 => ?_)
  · have h := (if_pos cc1).symm.trans h
    refine lv_iload_n hx hb dX10_posts_90 rfl (lv_at hl 1 rfl) ?_
    refine lv_if_ne (tgt := 101) hx hb dX10_posts_91 (by decide) (fun cc1 => ?_) (fun cc1 => ?_)
    · have h := (if_neg cc1).symm.trans h
      refine lv_iload_n hx hb dX10_posts_101 rfl (lv_at hl 2 rfl) ?_
      obtain rfl := Option.some.inj h
      exact eI C0 hPD.1 hPD.2 hS rfl dX10_posts_102
    · have h := (if_pos cc1).symm.trans h
      refine lv_iload_n hx hb dX10_posts_94 rfl (lv_at hl 2 rfl) ?_
      obtain ⟨q_1, hq_1, h⟩ := ob2 h
      refine kSI (As := [.int l2]) (rest := []) C0 (kt_X10_bits l G  l2 hq_1) gi_S_X10_244_X10_bits (n := 1) rfl (by decide +kernel) ⟨rfl, rfl, Nat.le_of_ble_eq_true rfl, Nat.le_of_ble_eq_true rfl⟩ hPD hS [] [0, 1, 2, 3, 4, 5, 6, 7, 8, 9, 10, 11, 12, 13, 14, 15, 16, 17, 18, 19, 20, 21, 22, 23, 24, 25, 26, 27, 28, 29, 30, 31, 32, 33] [0, 1, 2, 3, 4, 5, 6, 7, 8, 9, 10, 11, 12, 13, 14, 15, 16, 17, 18, 19, 20, 21, 22, 23, 24, 25, 26, 27, 28, 29, 30, 31, 32, 33] (wN := (wX10 G h0 a0 f0 A0)) rfl rfl rfl rfl rfl hl.1 (Nat.le_of_ble_eq_true rfl) dX10_posts_95 (fun H locs hPD hS => ?_)
      refine lv_goto (tgt := 102) hx hb dX10_posts_98 (by decide) ?_
      obtain rfl := Option.some.inj h
      exact eI C0 hPD.1 hPD.2 hS rfl dX10_posts_102
  · have h := (if_neg cc1).symm.trans h
    refine lv_iload_n hx hb dX10_posts_26 rfl (lv_at hl 3 rfl) ?_
    refine lv_aload_n hx hb dX10_posts_27 rfl (lv_at hl 0 rfl) ?_
    refine va_get (D := G.1) (ci := 10) (v := .int (f0 6)) (C := RX10) (T := TX10) (N := 52) hx hb hts inlX10 hown hK hPD.1 0 rfl rfl 6 (by decide) (hts _ gw_535) (fun _ h9 => h9) rfl dX10_posts_28 ?_
    refine lv_iconst (v := (-1)) hx hb dX10_posts_31 (by decide) ?_
    refine lv_ixor hx hb dX10_posts_32 ?_
    refine lv_iand hx hb dX10_posts_33 ?_
    refine lv_if_ne (tgt := 84) hx hb dX10_posts_34 (by decide) (fun cc1 => ?_) (fun cc1 => ?_)
    · have h := (if_neg cc1).symm.trans h
      refine lv_iinc (v := l3 + 1) (lv' := [(3, .int (l3 + 1)), (0, .ref h0), (1, .int p1), (2, .int l2)]) hx hb dX10_posts_84 hl (k := 3) rfl rfl (by decide) rfl (fun ls hl => ?_)
      refine lv_goto (tgt := 18) hx hb dX10_posts_87 (by decide) ?_
      exact hk18 l2 (l3 + 1) h _ _ _ hPD hS (lv_sub hl [1, 2, 3, 0] rfl)
    · have h := (if_pos cc1).symm.trans h
      refine lv_iload_n hx hb dX10_posts_37 rfl (lv_at hl 3 rfl) ?_
      obtain ⟨q_2, hq_2, h⟩ := ob2 h
      refine kSI (As := [.int l3]) (rest := []) C0 (kt_X10_bits l G  l3 hq_2) gi_S_X10_244_X10_bits (n := 1) rfl (by decide +kernel) ⟨rfl, rfl, Nat.le_of_ble_eq_true rfl, Nat.le_of_ble_eq_true rfl⟩ hPD hS [] [0, 1, 2, 3, 4, 5, 6, 7, 8, 9, 10, 11, 12, 13, 14, 15, 16, 17, 18, 19, 20, 21, 22, 23, 24, 25, 26, 27, 28, 29, 30, 31, 32, 33] [0, 1, 2, 3, 4, 5, 6, 7, 8, 9, 10, 11, 12, 13, 14, 15, 16, 17, 18, 19, 20, 21, 22, 23, 24, 25, 26, 27, 28, 29, 30, 31, 32, 33] (wN := (wX10 G h0 a0 f0 A0)) rfl rfl rfl rfl rfl hl.1 (Nat.le_of_ble_eq_true rfl) dX10_posts_38 (fun H locs hPD hS => ?_)
      refine lv_iload_n hx hb dX10_posts_41 rfl (lv_at hl 2 rfl) ?_
      obtain ⟨q_3, hq_3, h⟩ := ob2 h
      refine kSI (As := [.int l2]) (rest := [.int q_2]) C0 (kt_X10_bits l G  l2 hq_3) gi_S_X10_244_X10_bits (n := 1) rfl (by decide +kernel) ⟨rfl, rfl, Nat.le_of_ble_eq_true rfl, Nat.le_of_ble_eq_true rfl⟩ hPD hS [] [0, 1, 2, 3, 4, 5, 6, 7, 8, 9, 10, 11, 12, 13, 14, 15, 16, 17, 18, 19, 20, 21, 22, 23, 24, 25, 26, 27, 28, 29, 30, 31, 32, 33] [0, 1, 2, 3, 4, 5, 6, 7, 8, 9, 10, 11, 12, 13, 14, 15, 16, 17, 18, 19, 20, 21, 22, 23, 24, 25, 26, 27, 28, 29, 30, 31, 32, 33] (wN := (wX10 G h0 a0 f0 A0)) rfl rfl rfl rfl rfl hl.1 (Nat.le_of_ble_eq_true rfl) dX10_posts_42 (fun H locs hPD hS => ?_)
      refine lv_icmp_gt (tgt := 84) hx hb dX10_posts_45 (by decide) (fun cc1 => ?_) (fun cc1 => ?_)
      · have h := (if_pos cc1).symm.trans h
        refine lv_iinc (v := l3 + 1) (lv' := [(3, .int (l3 + 1)), (0, .ref h0), (1, .int p1), (2, .int l2)]) hx hb dX10_posts_84 hl (k := 3) rfl rfl (by decide) rfl (fun ls hl => ?_)
        refine lv_goto (tgt := 18) hx hb dX10_posts_87 (by decide) ?_
        exact hk18 l2 (l3 + 1) h _ _ _ hPD hS (lv_sub hl [1, 2, 3, 0] rfl)
      · have h := (if_neg cc1).symm.trans h
        refine lv_iload_n hx hb dX10_posts_48 rfl (lv_at hl 3 rfl) ?_
        obtain ⟨q_4, hq_4, h⟩ := ob2 h
        refine kSI (As := [.int l3]) (rest := []) C0 (kt_X10_bits l G  l3 hq_4) gi_S_X10_244_X10_bits (n := 1) rfl (by decide +kernel) ⟨rfl, rfl, Nat.le_of_ble_eq_true rfl, Nat.le_of_ble_eq_true rfl⟩ hPD hS [] [0, 1, 2, 3, 4, 5, 6, 7, 8, 9, 10, 11, 12, 13, 14, 15, 16, 17, 18, 19, 20, 21, 22, 23, 24, 25, 26, 27, 28, 29, 30, 31, 32, 33] [0, 1, 2, 3, 4, 5, 6, 7, 8, 9, 10, 11, 12, 13, 14, 15, 16, 17, 18, 19, 20, 21, 22, 23, 24, 25, 26, 27, 28, 29, 30, 31, 32, 33] (wN := (wX10 G h0 a0 f0 A0)) rfl rfl rfl rfl rfl hl.1 (Nat.le_of_ble_eq_true rfl) dX10_posts_49 (fun H locs hPD hS => ?_)
        refine lv_iload_n hx hb dX10_posts_52 rfl (lv_at hl 2 rfl) ?_
        obtain ⟨q_5, hq_5, h⟩ := ob2 h
        refine kSI (As := [.int l2]) (rest := [.int q_4]) C0 (kt_X10_bits l G  l2 hq_5) gi_S_X10_244_X10_bits (n := 1) rfl (by decide +kernel) ⟨rfl, rfl, Nat.le_of_ble_eq_true rfl, Nat.le_of_ble_eq_true rfl⟩ hPD hS [] [0, 1, 2, 3, 4, 5, 6, 7, 8, 9, 10, 11, 12, 13, 14, 15, 16, 17, 18, 19, 20, 21, 22, 23, 24, 25, 26, 27, 28, 29, 30, 31, 32, 33] [0, 1, 2, 3, 4, 5, 6, 7, 8, 9, 10, 11, 12, 13, 14, 15, 16, 17, 18, 19, 20, 21, 22, 23, 24, 25, 26, 27, 28, 29, 30, 31, 32, 33] (wN := (wX10 G h0 a0 f0 A0)) rfl rfl rfl rfl rfl hl.1 (Nat.le_of_ble_eq_true rfl) dX10_posts_53 (fun H locs hPD hS => ?_)
        refine lv_icmp_ne (tgt := 67) hx hb dX10_posts_56 (by decide) (fun cc1 => ?_) (fun cc1 => ?_)
        · have h := (if_neg cc1).symm.trans h
          exact ww_f10_posts_b67 C0 hk18 l2 l3 h _ _ _ hPD hS (lv_sub hl [0, 1, 2, 3] rfl)
        · have h := (if_pos cc1).symm.trans h
          refine lv_iload_n hx hb dX10_posts_59 rfl (lv_at hl 3 rfl) ?_
          refine lv_iload_n hx hb dX10_posts_60 rfl (lv_at hl 2 rfl) ?_
          refine lv_icmp_le (tgt := 67) hx hb dX10_posts_61 (by decide) (fun cc1 => ?_) (fun cc1 => ?_)
          · have h := (if_pos cc1).symm.trans h
            exact ww_f10_posts_b67 C0 hk18 l2 l3 h _ _ _ hPD hS (lv_sub hl [0, 1, 2, 3] rfl)
          · have h := (if_neg cc1).symm.trans h
            refine lv_goto (tgt := 84) hx hb dX10_posts_64 (by decide) ?_
            refine lv_iinc (v := l3 + 1) (lv' := [(3, .int (l3 + 1)), (0, .ref h0), (1, .int p1), (2, .int l2)]) hx hb dX10_posts_84 hl (k := 3) rfl rfl (by decide) rfl (fun ls hl => ?_)
            refine lv_goto (tgt := 18) hx hb dX10_posts_87 (by decide) ?_
            exact hk18 l2 (l3 + 1) h _ _ _ hPD hS (lv_sub hl [1, 2, 3, 0] rfl)
set_option maxRecDepth 100000 in
set_option maxHeartbeats 4000000 in
theorem ww_f10_posts_l18  (C0 : Cx cX10_posts 4 (some .int) RX10 p s m args meth c G DA) {h0 : Nat} {a0 : Nat → Nat} {f0 : Nat → Int32} {A0 : Nat → Nat → Int32} {p1 : Int32}   {res : Int32}  : ∀ (n : Nat) (l2 : Int32) (l3 : Int32), f10_posts_l18 f0 A0 p1  n l2 l3 = some res → ∀ (H : Heap) (locs : List Loc) (ls : Array Slot), WD G DA (wX10 G h0 a0 f0 A0) H → va_S DA s.heap H locs → lv_has ls 4 [(0, .ref h0), (1, .int p1), (2, .int l2), (3, .int l3)] → W p l e rmX10_posts s m args below meth c H locs 0 0 (MQ below (QI G DA res (wX10 G h0 a0 f0 A0)) args s 0 0 DA) (F0 m 18 ls []) := by
  intro n
  induction n with
  | zero => intro l2 l3 h; cases h
  | succ n ih => intro l2 l3 h; exact ww_f10_posts_b18 C0  ih l2 l3 h
set_option maxRecDepth 100000 in
set_option maxHeartbeats 4000000 in
theorem kt_X10_posts (l : Launch) (G : Gp) (h0 : Nat) (a0 : Nat → Nat) (f0 : Nat → Int32) (A0 : Nat → Nat → Int32) (p1 : Int32) : ∀ {r : Int32}, f10_posts f0 A0 p1 = some r → CtrI l yX10_posts cX10_posts 4 (some .int) rmX10_posts G [.ref h0, .int p1] (wX10 G h0 a0 f0 A0) r (wX10 G h0 a0 f0 A0) := by
  intro res h
  refine ctrI_of (cc := cX10_posts) (maxL := 4) (ret := (some .int)) (by decide +kernel) rfl (Nat.le_of_ble_eq_true rfl) (fun p e s m below meth c DA C0 hP hD ls hl => ?_)
  have hPD : WD G DA (wX10 G h0 a0 f0 A0) s.heap := ⟨hP, hD⟩
  have hS : va_S DA s.heap s.heap [] := va_S.rf
  have hl : lv_has ls 4 [(0, .ref h0), (1, .int p1)] := hl
  obtain ⟨hx, hb, hml, hown, hts⟩ := C0.1
  have hK := C0.2.2.2.1
  unfold f10_posts at h
  refine lv_iload_n hx hb dX10_posts_0 rfl (lv_at hl 1 rfl) ?_
  refine lv_iconst (v := 0) hx hb dX10_posts_1 (by decide) ?_
  refine lv_iconst (v := 1) hx hb dX10_posts_2 (by decide) ?_
  refine kSI (As := [.int p1, .int 0, .int 1]) (rest := []) C0 (kt_X10_in l G  p1 0 1) gi_S_X10_112_X10_in (n := 3) rfl (by decide +kernel) ⟨rfl, rfl, Nat.le_of_ble_eq_true rfl, Nat.le_of_ble_eq_true rfl⟩ hPD hS [] [0, 1, 2, 3, 4, 5, 6, 7, 8, 9, 10, 11, 12, 13, 14, 15, 16, 17, 18, 19, 20, 21, 22, 23, 24, 25, 26, 27, 28, 29, 30, 31, 32, 33] [0, 1, 2, 3, 4, 5, 6, 7, 8, 9, 10, 11, 12, 13, 14, 15, 16, 17, 18, 19, 20, 21, 22, 23, 24, 25, 26, 27, 28, 29, 30, 31, 32, 33] (wN := (wX10 G h0 a0 f0 A0)) rfl rfl rfl rfl rfl hl.1 (Nat.le_of_ble_eq_true rfl) dX10_posts_3 (fun H locs hPD hS => ?_)
  refine lv_if_ne (tgt := 11) hx hb dX10_posts_6 (by decide) (fun cc1 => ?_) (fun cc1 => ?_)
  · have h := (if_neg cc1).symm.trans h
    refine lv_aload_n hx hb dX10_posts_11 rfl (lv_at hl 0 rfl) ?_
    refine va_get (D := G.1) (ci := 10) (v := .int (f0 6)) (C := RX10) (T := TX10) (N := 52) hx hb hts inlX10 hown hK hPD.1 0 rfl rfl 6 (by decide) (hts _ gw_535) (fun _ h9 => h9) rfl dX10_posts_12 ?_
    refine lv_istore_n (lv' := [(2, .int (f0 6)), (0, .ref h0), (1, .int p1)]) hx hb dX10_posts_15 rfl hl (by decide) rfl (fun ls hl => ?_)
    refine lv_iconst (v := 0) hx hb dX10_posts_16 (by decide) ?_
    refine lv_istore_n (lv' := [(3, .int 0), (2, .int (f0 6)), (0, .ref h0), (1, .int p1)]) hx hb dX10_posts_17 rfl hl (by decide) rfl (fun ls hl => ?_)
    exact ww_f10_posts_l18 C0 NF (f0 6) 0 h _ _ _ hPD hS (lv_sub hl [2, 3, 1, 0] rfl)
  · have h := (if_pos cc1).symm.trans h
    refine lv_iconst (v := (-1)) hx hb dX10_posts_9 (by decide) ?_
    obtain rfl := Option.some.inj h
    exact eI C0 hPD.1 hPD.2 hS rfl dX10_posts_10
abbrev rmX10_temptationOf : Room := { frames := 1, cells := 0, slots := 0, locals := 21 }
set_option maxRecDepth 100000 in
set_option maxHeartbeats 4000000 in
theorem ww_f10_temptationOf_b4  (C0 : Cx cX10_temptationOf 4 (some .int) RX10 p s m args meth c G DA) {h0 : Nat} {a0 : Nat → Nat} {f0 : Nat → Int32} {A0 : Nat → Nat → Int32} {p1 : Int32}  {k4 : Int32 → Int32 → Option (Int32)} {res : Int32}  (hk4 : ∀ (l2 : Int32) (l3 : Int32), k4 l2 l3 = some res → ∀ (H : Heap) (locs : List Loc) (ls : Array Slot), WD G DA (wX10 G h0 a0 f0 A0) H → va_S DA s.heap H locs → lv_has ls 4 [(0, .ref h0), (1, .int p1), (2, .int l2), (3, .int l3)] → W p l e rmX10_temptationOf s m args below meth c H locs 0 0 (MQ below (QI G DA res (wX10 G h0 a0 f0 A0)) args s 0 0 DA) (F0 m 4 ls [])) : ∀ (l2 : Int32) (l3 : Int32), f10_temptationOf_b4 f0 A0 p1  k4 l2 l3 = some res → ∀ (H : Heap) (locs : List Loc) (ls : Array Slot), WD G DA (wX10 G h0 a0 f0 A0) H → va_S DA s.heap H locs → lv_has ls 4 [(0, .ref h0), (1, .int p1), (2, .int l2), (3, .int l3)] → W p l e rmX10_temptationOf s m args below meth c H locs 0 0 (MQ below (QI G DA res (wX10 G h0 a0 f0 A0)) args s 0 0 DA) (F0 m 4 ls []) := by
  obtain ⟨hx, hb, hml, hown, hts⟩ := C0.1
  have hK := C0.2.2.2.1
  intro l2 l3 h _ _ _ hPD hS hl
  unfold f10_temptationOf_b4 at h
  refine lv_iload_n hx hb dX10_temptationOf_4 rfl (lv_at hl 3 rfl) ?_
  refine lv_bipush (v := 16) hx hb dX10_temptationOf_5 (by decide) ?_
  refine lv_icmp_ge (tgt := 35) hx hb dX10_temptationOf_7 (by decide) (fun cc1 => ?_) (fun cc1 => ?_)
  · have h := (if_pos cc1).symm.trans h
    refine lv_iload_n hx hb dX10_temptationOf_35 rfl (lv_at hl 2 rfl) ?_
    obtain rfl := Option.some.inj h
    exact eI C0 hPD.1 hPD.2 hS rfl dX10_temptationOf_36
  · have h := (if_neg cc1).symm.trans h
    refine lv_iload_n hx hb dX10_temptationOf_10 rfl (lv_at hl 1 rfl) ?_
    refine lv_iload_n hx hb dX10_temptationOf_11 rfl (lv_at hl 3 rfl) ?_
    refine kSI (As := [.int p1, .int l3]) (rest := []) C0 (kt_X10_has l G  p1 l3) gi_S_X10_120_X10_has (n := 2) rfl (by decide +kernel) ⟨rfl, rfl, Nat.le_of_ble_eq_true rfl, Nat.le_of_ble_eq_true rfl⟩ hPD hS [] [0, 1, 2, 3, 4, 5, 6, 7, 8, 9, 10, 11, 12, 13, 14, 15, 16, 17, 18, 19, 20, 21, 22, 23, 24, 25, 26, 27, 28, 29, 30, 31, 32, 33] [0, 1, 2, 3, 4, 5, 6, 7, 8, 9, 10, 11, 12, 13, 14, 15, 16, 17, 18, 19, 20, 21, 22, 23, 24, 25, 26, 27, 28, 29, 30, 31, 32, 33] (wN := (wX10 G h0 a0 f0 A0)) rfl rfl rfl rfl rfl hl.1 (Nat.le_of_ble_eq_true rfl) dX10_temptationOf_12 (fun H locs hPD hS => ?_)
    refine lv_if_eq (tgt := 29) hx hb dX10_temptationOf_15 (by decide) (fun cc1 => ?_) (fun cc1 => ?_)
    · have h := (if_pos cc1).symm.trans h
      refine lv_iinc (v := l3 + 1) (lv' := [(3, .int (l3 + 1)), (0, .ref h0), (1, .int p1), (2, .int l2)]) hx hb dX10_temptationOf_29 hl (k := 3) rfl rfl (by decide) rfl (fun ls hl => ?_)
      refine lv_goto (tgt := 4) hx hb dX10_temptationOf_32 (by decide) ?_
      exact hk4 l2 (l3 + 1) h _ _ _ hPD hS (lv_sub hl [1, 2, 3, 0] rfl)
    · have h := (if_neg cc1).symm.trans h
      refine lv_iload_n hx hb dX10_temptationOf_18 rfl (lv_at hl 2 rfl) ?_
      refine lv_aload_n hx hb dX10_temptationOf_19 rfl (lv_at hl 0 rfl) ?_
      refine va_get (D := G.1) (ci := 10) (v := .ref (a0 0)) (C := RX10) (T := TX10) (N := 52) hx hb hts inlX10 hown hK hPD.1 0 rfl rfl 0 (by decide) (hts _ gw_539) (fun _ h9 => h9) rfl dX10_temptationOf_20 ?_
      refine lv_iconst (v := 0) hx hb dX10_temptationOf_23 (by decide) ?_
      refine lv_iload_n hx hb dX10_temptationOf_24 rfl (lv_at hl 3 rfl) ?_
      refine lv_iadd hx hb dX10_temptationOf_25 ?_
      obtain ⟨hi_1, h⟩ := ob h
      refine va_iald hx hb hK hPD.1 1 1 rfl rfl hi_1 dX10_temptationOf_26 ?_
      refine lv_iadd hx hb dX10_temptationOf_27 ?_
      refine lv_istore_n (lv' := [(2, .int (l2 + (gx (A0 0) (0 + l3)))), (0, .ref h0), (1, .int p1), (3, .int l3)]) hx hb dX10_temptationOf_28 rfl hl (by decide) rfl (fun ls hl => ?_)
      refine lv_iinc (v := l3 + 1) (lv' := [(3, .int (l3 + 1)), (2, .int (l2 + (gx (A0 0) (0 + l3)))), (0, .ref h0), (1, .int p1)]) hx hb dX10_temptationOf_29 hl (k := 3) rfl rfl (by decide) rfl (fun ls hl => ?_)
      refine lv_goto (tgt := 4) hx hb dX10_temptationOf_32 (by decide) ?_
      exact hk4 (l2 + (gx (A0 0) (0 + l3))) (l3 + 1) h _ _ _ hPD hS (lv_sub hl [2, 3, 1, 0] rfl)
set_option maxRecDepth 100000 in
set_option maxHeartbeats 4000000 in
theorem ww_f10_temptationOf_l4  (C0 : Cx cX10_temptationOf 4 (some .int) RX10 p s m args meth c G DA) {h0 : Nat} {a0 : Nat → Nat} {f0 : Nat → Int32} {A0 : Nat → Nat → Int32} {p1 : Int32}   {res : Int32}  : ∀ (n : Nat) (l2 : Int32) (l3 : Int32), f10_temptationOf_l4 f0 A0 p1  n l2 l3 = some res → ∀ (H : Heap) (locs : List Loc) (ls : Array Slot), WD G DA (wX10 G h0 a0 f0 A0) H → va_S DA s.heap H locs → lv_has ls 4 [(0, .ref h0), (1, .int p1), (2, .int l2), (3, .int l3)] → W p l e rmX10_temptationOf s m args below meth c H locs 0 0 (MQ below (QI G DA res (wX10 G h0 a0 f0 A0)) args s 0 0 DA) (F0 m 4 ls []) := by
  intro n
  induction n with
  | zero => intro l2 l3 h; cases h
  | succ n ih => intro l2 l3 h; exact ww_f10_temptationOf_b4 C0  ih l2 l3 h
set_option maxRecDepth 100000 in
set_option maxHeartbeats 4000000 in
theorem kt_X10_temptationOf (l : Launch) (G : Gp) (h0 : Nat) (a0 : Nat → Nat) (f0 : Nat → Int32) (A0 : Nat → Nat → Int32) (p1 : Int32) : ∀ {r : Int32}, f10_temptationOf f0 A0 p1 = some r → CtrI l yX10_temptationOf cX10_temptationOf 4 (some .int) rmX10_temptationOf G [.ref h0, .int p1] (wX10 G h0 a0 f0 A0) r (wX10 G h0 a0 f0 A0) := by
  intro res h
  refine ctrI_of (cc := cX10_temptationOf) (maxL := 4) (ret := (some .int)) (by decide +kernel) rfl (Nat.le_of_ble_eq_true rfl) (fun p e s m below meth c DA C0 hP hD ls hl => ?_)
  have hPD : WD G DA (wX10 G h0 a0 f0 A0) s.heap := ⟨hP, hD⟩
  have hS : va_S DA s.heap s.heap [] := va_S.rf
  have hl : lv_has ls 4 [(0, .ref h0), (1, .int p1)] := hl
  obtain ⟨hx, hb, hml, hown, hts⟩ := C0.1
  have hK := C0.2.2.2.1
  unfold f10_temptationOf at h
  refine lv_iconst (v := 0) hx hb dX10_temptationOf_0 (by decide) ?_
  refine lv_istore_n (lv' := [(2, .int 0), (0, .ref h0), (1, .int p1)]) hx hb dX10_temptationOf_1 rfl hl (by decide) rfl (fun ls hl => ?_)
  refine lv_iconst (v := 0) hx hb dX10_temptationOf_2 (by decide) ?_
  refine lv_istore_n (lv' := [(3, .int 0), (2, .int 0), (0, .ref h0), (1, .int p1)]) hx hb dX10_temptationOf_3 rfl hl (by decide) rfl (fun ls hl => ?_)
  exact ww_f10_temptationOf_l4 C0 NF 0 0 h _ _ _ hPD hS (lv_sub hl [2, 3, 1, 0] rfl)
abbrev rmX10_isBetter : Room := { frames := 2, cells := 0, slots := 0, locals := 44 }
set_option maxRecDepth 100000 in
set_option maxHeartbeats 4000000 in
theorem kt_X10_isBetter (l : Launch) (G : Gp) (h0 : Nat) (a0 : Nat → Nat) (f0 : Nat → Int32) (A0 : Nat → Nat → Int32) (p1 : Int32) (p2 : Int32) : ∀ {r : Int32}, f10_isBetter f0 A0 p1 p2 = some r → CtrI l yX10_isBetter cX10_isBetter 5 (some .boolean) rmX10_isBetter G [.ref h0, .int p1, .int p2] (wX10 G h0 a0 f0 A0) r (wX10 G h0 a0 f0 A0) := by
  intro res h
  refine ctrI_of (cc := cX10_isBetter) (maxL := 5) (ret := (some .boolean)) (by decide +kernel) rfl (Nat.le_of_ble_eq_true rfl) (fun p e s m below meth c DA C0 hP hD ls hl => ?_)
  have hPD : WD G DA (wX10 G h0 a0 f0 A0) s.heap := ⟨hP, hD⟩
  have hS : va_S DA s.heap s.heap [] := va_S.rf
  have hl : lv_has ls 5 [(0, .ref h0), (1, .int p1), (2, .int p2)] := hl
  obtain ⟨hx, hb, hml, hown, hts⟩ := C0.1
  have hK := C0.2.2.2.1
  unfold f10_isBetter at h
  refine lv_aload_n hx hb dX10_isBetter_0 rfl (lv_at hl 0 rfl) ?_
  refine lv_iload_n hx hb dX10_isBetter_1 rfl (lv_at hl 1 rfl) ?_
  obtain ⟨q_1, hq_1, h⟩ := ob2 h
  refine kVI (As := [.int p1]) (rest := []) C0 (kt_X10_temptationOf l G h0 a0 f0 A0 p1 hq_1) gi_V_X10_341_X10_temptationOf (n := 1) rfl (by decide +kernel) rfl ⟨rfl, rfl, Nat.le_of_ble_eq_true rfl, Nat.le_of_ble_eq_true rfl⟩ hPD hS 0 10 rfl rfl rfl [0, 1, 2, 3, 4, 5, 6, 7, 8, 9, 10, 11, 12, 13, 14, 15, 16, 17, 18, 19, 20, 21, 22, 23, 24, 25, 26, 27, 28, 29, 30, 31, 32, 33] [] [0, 1, 2, 3, 4, 5, 6, 7, 8, 9, 10, 11, 12, 13, 14, 15, 16, 17, 18, 19, 20, 21, 22, 23, 24, 25, 26, 27, 28, 29, 30, 31, 32, 33] (wN := (wX10 G h0 a0 f0 A0)) rfl rfl rfl rfl rfl hl.1 (Nat.le_of_ble_eq_true rfl) dX10_isBetter_2 (fun H locs hPD hS => ?_)
  refine lv_istore_n (lv' := [(3, .int q_1), (0, .ref h0), (1, .int p1), (2, .int p2)]) hx hb dX10_isBetter_5 rfl hl (by decide) rfl (fun ls hl => ?_)
  refine lv_aload_n hx hb dX10_isBetter_6 rfl (lv_at hl 1 rfl) ?_
  refine lv_iload_n hx hb dX10_isBetter_7 rfl (lv_at hl 3 rfl) ?_
  obtain ⟨q_2, hq_2, h⟩ := ob2 h
  refine kVI (As := [.int p2]) (rest := []) C0 (kt_X10_temptationOf l G h0 a0 f0 A0 p2 hq_2) gi_V_X10_341_X10_temptationOf (n := 1) rfl (by decide +kernel) rfl ⟨rfl, rfl, Nat.le_of_ble_eq_true rfl, Nat.le_of_ble_eq_true rfl⟩ hPD hS 0 10 rfl rfl rfl [0, 1, 2, 3, 4, 5, 6, 7, 8, 9, 10, 11, 12, 13, 14, 15, 16, 17, 18, 19, 20, 21, 22, 23, 24, 25, 26, 27, 28, 29, 30, 31, 32, 33] [] [0, 1, 2, 3, 4, 5, 6, 7, 8, 9, 10, 11, 12, 13, 14, 15, 16, 17, 18, 19, 20, 21, 22, 23, 24, 25, 26, 27, 28, 29, 30, 31, 32, 33] (wN := (wX10 G h0 a0 f0 A0)) rfl rfl rfl rfl rfl hl.1 (Nat.le_of_ble_eq_true rfl) dX10_isBetter_8 (fun H locs hPD hS => ?_)
  refine lv_istore (lv' := [(4, .int q_2), (3, .int q_1), (0, .ref h0), (1, .int p1), (2, .int p2)]) hx hb dX10_isBetter_11 hl (by decide) rfl (fun ls hl => ?_)
  refine lv_iload_n hx hb dX10_isBetter_13 rfl (lv_at hl 1 rfl) ?_
  refine lv_iload hx hb dX10_isBetter_14 (lv_at hl 0 rfl) ?_
  refine lv_icmp_gt (tgt := 30) hx hb dX10_isBetter_16 (by decide) (fun cc1 => ?_) (fun cc1 => ?_)
  · have h := (if_pos cc1).symm.trans h
    refine lv_iconst (v := 1) hx hb dX10_isBetter_30 (by decide) ?_
    refine lv_goto (tgt := 35) hx hb dX10_isBetter_31 (by decide) ?_
    obtain rfl := Option.some.inj h
    exact eZ C0 hPD.1 hPD.2 hS rfl rfl dX10_isBetter_35
  · have h := (if_neg cc1).symm.trans h
    refine lv_iload_n hx hb dX10_isBetter_19 rfl (lv_at hl 1 rfl) ?_
    refine lv_iload hx hb dX10_isBetter_20 (lv_at hl 0 rfl) ?_
    refine lv_icmp_ne (tgt := 34) hx hb dX10_isBetter_22 (by decide) (fun cc1 => ?_) (fun cc1 => ?_)
    · have h := (if_neg cc1).symm.trans h
      refine lv_iconst (v := 0) hx hb dX10_isBetter_34 (by decide) ?_
      obtain rfl := Option.some.inj h
      exact eZ C0 hPD.1 hPD.2 hS rfl rfl dX10_isBetter_35
    · have h := (if_pos cc1).symm.trans h
      refine lv_iload_n hx hb dX10_isBetter_25 rfl (lv_at hl 3 rfl) ?_
      refine lv_iload_n hx hb dX10_isBetter_26 rfl (lv_at hl 4 rfl) ?_
      refine lv_icmp_ge (tgt := 34) hx hb dX10_isBetter_27 (by decide) (fun cc1 => ?_) (fun cc1 => ?_)
      · have h := (if_pos cc1).symm.trans h
        refine lv_iconst (v := 0) hx hb dX10_isBetter_34 (by decide) ?_
        obtain rfl := Option.some.inj h
        exact eZ C0 hPD.1 hPD.2 hS rfl rfl dX10_isBetter_35
      · have h := (if_neg cc1).symm.trans h
        refine lv_iconst (v := 1) hx hb dX10_isBetter_30 (by decide) ?_
        refine lv_goto (tgt := 35) hx hb dX10_isBetter_31 (by decide) ?_
        obtain rfl := Option.some.inj h
        exact eZ C0 hPD.1 hPD.2 hS rfl rfl dX10_isBetter_35
abbrev rmX10_round : Room := { frames := 3, cells := 0, slots := 0, locals := 68 }
set_option maxRecDepth 100000 in
set_option maxHeartbeats 4000000 in
theorem ww_f10_round_b242  (C0 : Cx cX10_round 12 (some .int) RX10 p s m args meth c G DA) {h0 : Nat} {a0 : Nat → Nat} {f0 : Nat → Int32} {p1 : Int32} {p2 : Int32} {p3 : Int32}  {k242 : (Nat → Nat → Int32) → Int32 → Int32 → Int32 → Option (Int32 × (Nat → Nat → Int32))} {res : Int32 × (Nat → Nat → Int32)}  (hk242 : ∀ (A0 : Nat → Nat → Int32) (l5 : Int32) (l6 : Int32) (l7 : Int32), k242 A0 l5 l6 l7 = some res → ∀ (H : Heap) (locs : List Loc) (ls : Array Slot), WD G DA (wX10 G h0 a0 f0 A0) H → va_S DA s.heap H locs → lv_has ls 12 [(0, .ref h0), (1, .int p1), (2, .int p2), (3, .int p3), (5, .int l5), (6, .int l6), (7, .int l7)] → W p l e rmX10_round s m args below meth c H locs 0 0 (MQ below (QI G DA res.1 (wX10 G h0 a0 f0 res.2)) args s 0 0 DA) (F0 m 242 ls [])) : ∀ (A0 : Nat → Nat → Int32) (l5 : Int32) (l6 : Int32) (l7 : Int32), f10_round_b242 f0 p1 p2 p3  k242 A0 l5 l6 l7 = some res → ∀ (H : Heap) (locs : List Loc) (ls : Array Slot), WD G DA (wX10 G h0 a0 f0 A0) H → va_S DA s.heap H locs → lv_has ls 12 [(0, .ref h0), (1, .int p1), (2, .int p2), (3, .int p3), (5, .int l5), (6, .int l6), (7, .int l7)] → W p l e rmX10_round s m args below meth c H locs 0 0 (MQ below (QI G DA res.1 (wX10 G h0 a0 f0 res.2)) args s 0 0 DA) (F0 m 242 ls []) := by
  obtain ⟨hx, hb, hml, hown, hts⟩ := C0.1
  have hK := C0.2.2.2.1
  intro A0 l5 l6 l7 h _ _ _ hPD hS hl
  unfold f10_round_b242 at h
  refine lv_iload hx hb dX10_round_242 (lv_at hl 6 rfl) ?_
  refine lv_iload hx hb dX10_round_244 (lv_at hl 4 rfl) ?_
  refine lv_icmp_ge (tgt := 268) hx hb dX10_round_246 (by decide) (fun cc1 => ?_) (fun cc1 => ?_)
  · have h := (if_pos cc1).symm.trans h
    refine lv_iload_n hx hb dX10_round_268 rfl (lv_at hl 3 rfl) ?_
    refine lv_if_ne (tgt := 281) hx hb dX10_round_269 (by decide) (fun cc1 => ?_) (fun cc1 => ?_)
    · have h := (if_neg cc1).symm.trans h
      refine lv_iload hx hb dX10_round_281 (lv_at hl 5 rfl) ?_
      obtain rfl := Option.some.inj h
      exact eI C0 hPD.1 hPD.2 hS rfl dX10_round_283
    · have h := (if_pos cc1).symm.trans h
      refine lv_aload_n hx hb dX10_round_272 rfl (lv_at hl 0 rfl) ?_
      refine lv_iload hx hb dX10_round_273 (lv_at hl 5 rfl) ?_
      obtain ⟨q_4, hq_4, h⟩ := ob2 h
      refine kVI (As := [.int l6]) (rest := []) C0 (kt_X10_temptationOf l G h0 a0 f0 A0 l6 hq_4) gi_V_X10_341_X10_temptationOf (n := 1) rfl (by decide +kernel) rfl ⟨rfl, rfl, Nat.le_of_ble_eq_true rfl, Nat.le_of_ble_eq_true rfl⟩ hPD hS 0 10 rfl rfl rfl [0, 1, 2, 3, 4, 5, 6, 7, 8, 9, 10, 11, 12, 13, 14, 15, 16, 17, 18, 19, 20, 21, 22, 23, 24, 25, 26, 27, 28, 29, 30, 31, 32, 33] [] [0, 1, 2, 3, 4, 5, 6, 7, 8, 9, 10, 11, 12, 13, 14, 15, 16, 17, 18, 19, 20, 21, 22, 23, 24, 25, 26, 27, 28, 29, 30, 31, 32, 33] (wN := (wX10 G h0 a0 f0 A0)) rfl rfl rfl rfl rfl hl.1 (Nat.le_of_ble_eq_true rfl) dX10_round_275 (fun H locs hPD hS => ?_)
      refine lv_goto (tgt := 283) hx hb dX10_round_278 (by decide) ?_
      obtain rfl := Option.some.inj h
      exact eI C0 hPD.1 hPD.2 hS rfl dX10_round_283
  · have h := (if_neg cc1).symm.trans h
    refine lv_aload_n hx hb dX10_round_249 rfl (lv_at hl 0 rfl) ?_
    refine va_get (D := G.1) (ci := 10) (v := .ref (a0 43)) (C := RX10) (T := TX10) (N := 52) hx hb hts inlX10 hown hK hPD.1 0 rfl rfl 43 (by decide) (hts _ gw_781) (fun _ h9 => h9) rfl dX10_round_250 ?_
    refine lv_aload_n hx hb dX10_round_253 rfl (lv_at hl 0 rfl) ?_
    refine va_get (D := G.1) (ci := 10) (v := .ref (a0 44)) (C := RX10) (T := TX10) (N := 52) hx hb hts inlX10 hown hK hPD.1 0 rfl rfl 44 (by decide) (hts _ gw_780) (fun _ h9 => h9) rfl dX10_round_254 ?_
    refine lv_iload hx hb dX10_round_257 (lv_at hl 6 rfl) ?_
    obtain ⟨hi_5, h⟩ := ob h
    refine va_iald hx hb hK hPD.1 27 1 rfl rfl hi_5 dX10_round_259 ?_
    refine lv_iconst (v := 0) hx hb dX10_round_260 (by decide) ?_
    obtain ⟨hi_6, h⟩ := ob h
    refine va_bast hx hb hK hPD.1 hPD.2 hS 26 0 rfl rfl hi_6 dX10_round_261 (fun H locs hP hD hS => ?_)
    obtain ⟨A0_7, eA0_7, h⟩ := lvl h
    have hPD : WD G DA (wX10 G h0 a0 f0 A0_7) H := by rw [eA0_7]; exact ⟨hP, hD⟩
    clear eA0_7 hP hD
    refine lv_iinc (v := l7 + 1) (lv' := [(7, .int (l7 + 1)), (0, .ref h0), (1, .int p1), (2, .int p2), (3, .int p3), (5, .int l5), (6, .int l6)]) hx hb dX10_round_262 hl (k := 6) rfl rfl (by decide) rfl (fun ls hl => ?_)
    refine lv_goto (tgt := 242) hx hb dX10_round_265 (by decide) ?_
    exact hk242 A0_7 l5 l6 (l7 + 1) h _ _ _ hPD hS (lv_sub hl [1, 2, 3, 4, 5, 6, 0] rfl)
set_option maxRecDepth 100000 in
set_option maxHeartbeats 4000000 in
theorem ww_f10_round_l242  (C0 : Cx cX10_round 12 (some .int) RX10 p s m args meth c G DA) {h0 : Nat} {a0 : Nat → Nat} {f0 : Nat → Int32} {p1 : Int32} {p2 : Int32} {p3 : Int32}   {res : Int32 × (Nat → Nat → Int32)}  : ∀ (n : Nat) (A0 : Nat → Nat → Int32) (l5 : Int32) (l6 : Int32) (l7 : Int32), f10_round_l242 f0 p1 p2 p3  n A0 l5 l6 l7 = some res → ∀ (H : Heap) (locs : List Loc) (ls : Array Slot), WD G DA (wX10 G h0 a0 f0 A0) H → va_S DA s.heap H locs → lv_has ls 12 [(0, .ref h0), (1, .int p1), (2, .int p2), (3, .int p3), (5, .int l5), (6, .int l6), (7, .int l7)] → W p l e rmX10_round s m args below meth c H locs 0 0 (MQ below (QI G DA res.1 (wX10 G h0 a0 f0 res.2)) args s 0 0 DA) (F0 m 242 ls []) := by
  intro n
  induction n with
  | zero => intro A0 l5 l6 l7 h; cases h
  | succ n ih => intro A0 l5 l6 l7 h; exact ww_f10_round_b242 C0  ih A0 l5 l6 l7 h
set_option maxRecDepth 100000 in
set_option maxHeartbeats 4000000 in
theorem ww_f10_round_b140  (C0 : Cx cX10_round 12 (some .int) RX10 p s m args meth c G DA) {h0 : Nat} {a0 : Nat → Nat} {f0 : Nat → Int32} {p1 : Int32} {p2 : Int32} {p3 : Int32}  {k66 : (Nat → Nat → Int32) → Int32 → Int32 → Int32 → Option (Int32 × (Nat → Nat → Int32))} {k140 : (Nat → Nat → Int32) → Int32 → Int32 → Int32 → Int32 → Int32 → Int32 → Option (Int32 × (Nat → Nat → Int32))} {res : Int32 × (Nat → Nat → Int32)} (hk66 : ∀ (A0 : Nat → Nat → Int32) (l5 : Int32) (l6 : Int32) (l7 : Int32), k66 A0 l5 l6 l7 = some res → ∀ (H : Heap) (locs : List Loc) (ls : Array Slot), WD G DA (wX10 G h0 a0 f0 A0) H → va_S DA s.heap H locs → lv_has ls 12 [(0, .ref h0), (1, .int p1), (2, .int p2), (3, .int p3), (5, .int l5), (6, .int l6), (7, .int l7)] → W p l e rmX10_round s m args below meth c H locs 0 0 (MQ below (QI G DA res.1 (wX10 G h0 a0 f0 res.2)) args s 0 0 DA) (F0 m 66 ls [])) (hk140 : ∀ (A0 : Nat → Nat → Int32) (l5 : Int32) (l6 : Int32) (l7 : Int32) (l8 : Int32) (l9 : Int32) (l10 : Int32), k140 A0 l5 l6 l7 l8 l9 l10 = some res → ∀ (H : Heap) (locs : List Loc) (ls : Array Slot), WD G DA (wX10 G h0 a0 f0 A0) H → va_S DA s.heap H locs → lv_has ls 12 [(0, .ref h0), (1, .int p1), (2, .int p2), (3, .int p3), (5, .int l5), (6, .int l6), (7, .int l7), (8, .int l8), (9, .int l9), (10, .int l10)] → W p l e rmX10_round s m args below meth c H locs 0 0 (MQ below (QI G DA res.1 (wX10 G h0 a0 f0 res.2)) args s 0 0 DA) (F0 m 140 ls [])) : ∀ (A0 : Nat → Nat → Int32) (l5 : Int32) (l6 : Int32) (l7 : Int32) (l8 : Int32) (l9 : Int32) (l10 : Int32), f10_round_b140 f0 p1 p2 p3 k66 k140 A0 l5 l6 l7 l8 l9 l10 = some res → ∀ (H : Heap) (locs : List Loc) (ls : Array Slot), WD G DA (wX10 G h0 a0 f0 A0) H → va_S DA s.heap H locs → lv_has ls 12 [(0, .ref h0), (1, .int p1), (2, .int p2), (3, .int p3), (5, .int l5), (6, .int l6), (7, .int l7), (8, .int l8), (9, .int l9), (10, .int l10)] → W p l e rmX10_round s m args below meth c H locs 0 0 (MQ below (QI G DA res.1 (wX10 G h0 a0 f0 res.2)) args s 0 0 DA) (F0 m 140 ls []) := by
  obtain ⟨hx, hb, hml, hown, hts⟩ := C0.1
  have hK := C0.2.2.2.1
  intro A0 l5 l6 l7 l8 l9 l10 h _ _ _ hPD hS hl
  unfold f10_round_b140 at h
  refine lv_iload hx hb dX10_round_140 (lv_at hl 9 rfl) ?_
  refine lv_bipush (v := 16) hx hb dX10_round_142 (by decide) ?_
  refine lv_icmp_ge (tgt := 233) hx hb dX10_round_144 (by decide) (fun cc1 => ?_) (fun cc1 => ?_)
  · have h := (if_pos cc1).symm.trans h
    refine lv_iinc (v := l7 + 1) (lv' := [(7, .int (l7 + 1)), (0, .ref h0), (1, .int p1), (2, .int p2), (3, .int p3), (5, .int l5), (6, .int l6), (8, .int l8), (9, .int l9), (10, .int l10)]) hx hb dX10_round_233 hl (k := 6) rfl rfl (by decide) rfl (fun ls hl => ?_)
    refine lv_goto (tgt := 66) hx hb dX10_round_236 (by decide) ?_
    exact hk66 A0 l5 l6 (l7 + 1) h _ _ _ hPD hS (lv_sub hl [1, 2, 3, 4, 5, 6, 0] rfl)
  · have h := (if_neg cc1).symm.trans h
    refine lv_bipush (v := 16) hx hb dX10_round_147 (by decide) ?_
    refine lv_iload hx hb dX10_round_149 (lv_at hl 7 rfl) ?_
    refine lv_iconst (v := 1) hx hb dX10_round_151 (by decide) ?_
    refine lv_iload hx hb dX10_round_152 (lv_at hl 9 rfl) ?_
    refine lv_ishl hx hb dX10_round_154 ?_
    refine lv_ior hx hb dX10_round_155 ?_
    refine lv_imul hx hb dX10_round_156 ?_
    refine lv_iload hx hb dX10_round_157 (lv_at hl 9 rfl) ?_
    refine lv_iadd hx hb dX10_round_159 ?_
    refine lv_istore (lv' := [(11, .int ((16 * (l8 ||| (shl 1 l10))) + l10)), (0, .ref h0), (1, .int p1), (2, .int p2), (3, .int p3), (5, .int l5), (6, .int l6), (7, .int l7), (8, .int l8), (9, .int l9), (10, .int l10)]) hx hb dX10_round_160 hl (by decide) rfl (fun ls hl => ?_)
    refine lv_aload_n hx hb dX10_round_162 rfl (lv_at hl 1 rfl) ?_
    refine va_get (D := G.1) (ci := 10) (v := .ref (a0 3)) (C := RX10) (T := TX10) (N := 52) hx hb hts inlX10 hown hK hPD.1 0 rfl rfl 3 (by decide) (hts _ gw_666) (fun _ h9 => h9) rfl dX10_round_163 ?_
    refine lv_iload hx hb dX10_round_166 (lv_at hl 9 rfl) ?_
    obtain ⟨hi_12, h⟩ := ob h
    refine va_iald hx hb hK hPD.1 4 1 rfl rfl hi_12 dX10_round_168 ?_
    refine lv_iload hx hb dX10_round_169 (lv_at hl 10 rfl) ?_
    refine kSI (As := [.int (gx (A0 3) l9), .int l10]) (rest := []) C0 (kt_X10_has l G  (gx (A0 3) l9) l10) gi_S_X10_120_X10_has (n := 2) rfl (by decide +kernel) ⟨rfl, rfl, Nat.le_of_ble_eq_true rfl, Nat.le_of_ble_eq_true rfl⟩ hPD hS [] [0, 1, 2, 3, 4, 5, 6, 7, 8, 9, 10, 11, 12, 13, 14, 15, 16, 17, 18, 19, 20, 21, 22, 23, 24, 25, 26, 27, 28, 29, 30, 31, 32, 33] [0, 1, 2, 3, 4, 5, 6, 7, 8, 9, 10, 11, 12, 13, 14, 15, 16, 17, 18, 19, 20, 21, 22, 23, 24, 25, 26, 27, 28, 29, 30, 31, 32, 33] (wN := (wX10 G h0 a0 f0 A0)) rfl rfl rfl rfl rfl hl.1 (Nat.le_of_ble_eq_true rfl) dX10_round_171 (fun H locs hPD hS => ?_)
    refine lv_if_eq (tgt := 227) hx hb dX10_round_174 (by decide) (fun cc1 => ?_) (fun cc1 => ?_)
    · have h := (if_pos cc1).symm.trans h
      refine lv_iinc (v := l10 + 1) (lv' := [(10, .int (l10 + 1)), (11, .int ((16 * (l8 ||| (shl 1 l10))) + l10)), (0, .ref h0), (1, .int p1), (2, .int p2), (3, .int p3), (5, .int l5), (6, .int l6), (7, .int l7), (8, .int l8), (9, .int l9)]) hx hb dX10_round_227 hl (k := 10) rfl rfl (by decide) rfl (fun ls hl => ?_)
      refine lv_goto (tgt := 140) hx hb dX10_round_230 (by decide) ?_
      exact hk140 A0 l5 l6 l7 l8 l9 (l10 + 1) h _ _ _ hPD hS (lv_sub hl [2, 3, 4, 5, 6, 7, 8, 9, 10, 0] rfl)
    · have h := (if_neg cc1).symm.trans h
      refine lv_aload_n hx hb dX10_round_177 rfl (lv_at hl 1 rfl) ?_
      refine va_get (D := G.1) (ci := 10) (v := .ref (a0 43)) (C := RX10) (T := TX10) (N := 52) hx hb hts inlX10 hown hK hPD.1 0 rfl rfl 43 (by decide) (hts _ gw_781) (fun _ h9 => h9) rfl dX10_round_178 ?_
      refine lv_iload hx hb dX10_round_181 (lv_at hl 0 rfl) ?_
      obtain ⟨hi_13, h⟩ := ob h
      refine va_bald hx hb hK hPD.1 26 0 rfl rfl hi_13 dX10_round_183 ?_
      refine lv_if_eq (tgt := 190) hx hb dX10_round_184 (by decide) (fun cc1 => ?_) (fun cc1 => ?_)
      · have h := (if_pos cc1).symm.trans h
        refine lv_aload_n hx hb dX10_round_190 rfl (lv_at hl 1 rfl) ?_
        refine va_get (D := G.1) (ci := 10) (v := .ref (a0 43)) (C := RX10) (T := TX10) (N := 52) hx hb hts inlX10 hown hK hPD.1 0 rfl rfl 43 (by decide) (hts _ gw_781) (fun _ h9 => h9) rfl dX10_round_191 ?_
        refine lv_iload hx hb dX10_round_194 (lv_at hl 0 rfl) ?_
        refine lv_aload_n hx hb dX10_round_196 rfl (lv_at hl 1 rfl) ?_
        refine va_get (D := G.1) (ci := 10) (v := .ref (a0 43)) (C := RX10) (T := TX10) (N := 52) hx hb hts inlX10 hown hK hPD.1 0 rfl rfl 43 (by decide) (hts _ gw_781) (fun _ h9 => h9) rfl dX10_round_197 ?_
        refine lv_aload_n hx hb dX10_round_200 rfl (lv_at hl 1 rfl) ?_
        refine va_get (D := G.1) (ci := 10) (v := .ref (a0 44)) (C := RX10) (T := TX10) (N := 52) hx hb hts inlX10 hown hK hPD.1 0 rfl rfl 44 (by decide) (hts _ gw_780) (fun _ h9 => h9) rfl dX10_round_201 ?_
        refine lv_iload hx hb dX10_round_204 (lv_at hl 7 rfl) ?_
        obtain ⟨hi_14, h⟩ := ob h
        refine va_iald hx hb hK hPD.1 27 1 rfl rfl hi_14 dX10_round_206 ?_
        obtain ⟨hi_15, h⟩ := ob h
        refine va_bald hx hb hK hPD.1 26 0 rfl rfl hi_15 dX10_round_207 ?_
        refine lv_iconst (v := 1) hx hb dX10_round_208 (by decide) ?_
        refine lv_iadd hx hb dX10_round_209 ?_
        refine lv_i2b (v := i2b ((gx (A0 43) (gx (A0 44) l7)) + 1)) hx hb dX10_round_210 rfl ?_
        obtain ⟨hi_16, h⟩ := ob h
        refine va_bast hx hb hK hPD.1 hPD.2 hS 26 0 rfl rfl hi_16 dX10_round_211 (fun H locs hP hD hS => ?_)
        obtain ⟨A0_17, eA0_17, h⟩ := lvl h
        have hPD : WD G DA (wX10 G h0 a0 f0 A0_17) H := by rw [eA0_17]; exact ⟨hP, hD⟩
        clear eA0_17 hP hD
        refine lv_aload_n hx hb dX10_round_212 rfl (lv_at hl 1 rfl) ?_
        refine va_get (D := G.1) (ci := 10) (v := .ref (a0 44)) (C := RX10) (T := TX10) (N := 52) hx hb hts inlX10 hown hK hPD.1 0 rfl rfl 44 (by decide) (hts _ gw_780) (fun _ h9 => h9) rfl dX10_round_213 ?_
        refine lv_iload hx hb dX10_round_216 (lv_at hl 5 rfl) ?_
        refine lv_iload hx hb dX10_round_218 (lv_at hl 0 rfl) ?_
        obtain ⟨hi_18, h⟩ := ob h
        refine va_iast hx hb hK hPD.1 hPD.2 hS 27 1 rfl rfl hi_18 dX10_round_220 (fun H locs hP hD hS => ?_)
        obtain ⟨A0_19, eA0_19, h⟩ := lvl h
        have hPD : WD G DA (wX10 G h0 a0 f0 A0_19) H := by rw [eA0_19]; exact ⟨hP, hD⟩
        clear eA0_19 hP hD
        refine lv_iload hx hb dX10_round_221 (lv_at hl 5 rfl) ?_
        refine lv_iconst (v := 1) hx hb dX10_round_223 (by decide) ?_
        refine lv_iadd hx hb dX10_round_224 ?_
        refine lv_istore (lv' := [(5, .int (l5 + 1)), (11, .int ((16 * (l8 ||| (shl 1 l10))) + l10)), (0, .ref h0), (1, .int p1), (2, .int p2), (3, .int p3), (6, .int l6), (7, .int l7), (8, .int l8), (9, .int l9), (10, .int l10)]) hx hb dX10_round_225 hl (by decide) rfl (fun ls hl => ?_)
        refine lv_iinc (v := l10 + 1) (lv' := [(10, .int (l10 + 1)), (5, .int (l5 + 1)), (11, .int ((16 * (l8 ||| (shl 1 l10))) + l10)), (0, .ref h0), (1, .int p1), (2, .int p2), (3, .int p3), (6, .int l6), (7, .int l7), (8, .int l8), (9, .int l9)]) hx hb dX10_round_227 hl (k := 10) rfl rfl (by decide) rfl (fun ls hl => ?_)
        refine lv_goto (tgt := 140) hx hb dX10_round_230 (by decide) ?_
        exact hk140 A0_19 (l5 + 1) l6 l7 l8 l9 (l10 + 1) h _ _ _ hPD hS (lv_sub hl [3, 4, 5, 6, 1, 7, 8, 9, 10, 0] rfl)
      · have h := (if_neg cc1).symm.trans h
        refine lv_goto (tgt := 227) hx hb dX10_round_187 (by decide) ?_
        refine lv_iinc (v := l10 + 1) (lv' := [(10, .int (l10 + 1)), (11, .int ((16 * (l8 ||| (shl 1 l10))) + l10)), (0, .ref h0), (1, .int p1), (2, .int p2), (3, .int p3), (5, .int l5), (6, .int l6), (7, .int l7), (8, .int l8), (9, .int l9)]) hx hb dX10_round_227 hl (k := 10) rfl rfl (by decide) rfl (fun ls hl => ?_)
        refine lv_goto (tgt := 140) hx hb dX10_round_230 (by decide) ?_
        exact hk140 A0 l5 l6 l7 l8 l9 (l10 + 1) h _ _ _ hPD hS (lv_sub hl [2, 3, 4, 5, 6, 7, 8, 9, 10, 0] rfl)
set_option maxRecDepth 100000 in
set_option maxHeartbeats 4000000 in
theorem ww_f10_round_l140  (C0 : Cx cX10_round 12 (some .int) RX10 p s m args meth c G DA) {h0 : Nat} {a0 : Nat → Nat} {f0 : Nat → Int32} {p1 : Int32} {p2 : Int32} {p3 : Int32}  {k66 : (Nat → Nat → Int32) → Int32 → Int32 → Int32 → Option (Int32 × (Nat → Nat → Int32))} {res : Int32 × (Nat → Nat → Int32)} (hk66 : ∀ (A0 : Nat → Nat → Int32) (l5 : Int32) (l6 : Int32) (l7 : Int32), k66 A0 l5 l6 l7 = some res → ∀ (H : Heap) (locs : List Loc) (ls : Array Slot), WD G DA (wX10 G h0 a0 f0 A0) H → va_S DA s.heap H locs → lv_has ls 12 [(0, .ref h0), (1, .int p1), (2, .int p2), (3, .int p3), (5, .int l5), (6, .int l6), (7, .int l7)] → W p l e rmX10_round s m args below meth c H locs 0 0 (MQ below (QI G DA res.1 (wX10 G h0 a0 f0 res.2)) args s 0 0 DA) (F0 m 66 ls [])) : ∀ (n : Nat) (A0 : Nat → Nat → Int32) (l5 : Int32) (l6 : Int32) (l7 : Int32) (l8 : Int32) (l9 : Int32) (l10 : Int32), f10_round_l140 f0 p1 p2 p3 k66 n A0 l5 l6 l7 l8 l9 l10 = some res → ∀ (H : Heap) (locs : List Loc) (ls : Array Slot), WD G DA (wX10 G h0 a0 f0 A0) H → va_S DA s.heap H locs → lv_has ls 12 [(0, .ref h0), (1, .int p1), (2, .int p2), (3, .int p3), (5, .int l5), (6, .int l6), (7, .int l7), (8, .int l8), (9, .int l9), (10, .int l10)] → W p l e rmX10_round s m args below meth c H locs 0 0 (MQ below (QI G DA res.1 (wX10 G h0 a0 f0 res.2)) args s 0 0 DA) (F0 m 140 ls []) := by
  intro n
  induction n with
  | zero => intro A0 l5 l6 l7 l8 l9 l10 h; cases h
  | succ n ih => intro A0 l5 l6 l7 l8 l9 l10 h; exact ww_f10_round_b140 C0 hk66 ih A0 l5 l6 l7 l8 l9 l10 h
set_option maxRecDepth 100000 in
set_option maxHeartbeats 4000000 in
theorem ww_f10_round_b118  (C0 : Cx cX10_round 12 (some .int) RX10 p s m args meth c G DA) {h0 : Nat} {a0 : Nat → Nat} {f0 : Nat → Int32} {p1 : Int32} {p2 : Int32} {p3 : Int32}  {k66 : (Nat → Nat → Int32) → Int32 → Int32 → Int32 → Option (Int32 × (Nat → Nat → Int32))} {res : Int32 × (Nat → Nat → Int32)} (hk66 : ∀ (A0 : Nat → Nat → Int32) (l5 : Int32) (l6 : Int32) (l7 : Int32), k66 A0 l5 l6 l7 = some res → ∀ (H : Heap) (locs : List Loc) (ls : Array Slot), WD G DA (wX10 G h0 a0 f0 A0) H → va_S DA s.heap H locs → lv_has ls 12 [(0, .ref h0), (1, .int p1), (2, .int p2), (3, .int p3), (5, .int l5), (6, .int l6), (7, .int l7)] → W p l e rmX10_round s m args below meth c H locs 0 0 (MQ below (QI G DA res.1 (wX10 G h0 a0 f0 res.2)) args s 0 0 DA) (F0 m 66 ls [])) : ∀ (A0 : Nat → Nat → Int32) (l5 : Int32) (l6 : Int32) (l7 : Int32) (l8 : Int32) (l9 : Int32), f10_round_b118 f0 p1 p2 p3 k66 A0 l5 l6 l7 l8 l9 = some res → ∀ (H : Heap) (locs : List Loc) (ls : Array Slot), WD G DA (wX10 G h0 a0 f0 A0) H → va_S DA s.heap H locs → lv_has ls 12 [(0, .ref h0), (1, .int p1), (2, .int p2), (3, .int p3), (5, .int l5), (6, .int l6), (7, .int l7), (8, .int l8), (9, .int l9)] → W p l e rmX10_round s m args below meth c H locs 0 0 (MQ below (QI G DA res.1 (wX10 G h0 a0 f0 res.2)) args s 0 0 DA) (F0 m 118 ls []) := by
  obtain ⟨hx, hb, hml, hown, hts⟩ := C0.1
  have hK := C0.2.2.2.1
  intro A0 l5 l6 l7 l8 l9 h _ _ _ hPD hS hl
  unfold f10_round_b118 at h
  refine lv_aload_n hx hb dX10_round_118 rfl (lv_at hl 0 rfl) ?_
  refine va_get (D := G.1) (ci := 10) (v := .ref (a0 43)) (C := RX10) (T := TX10) (N := 52) hx hb hts inlX10 hown hK hPD.1 0 rfl rfl 43 (by decide) (hts _ gw_781) (fun _ h9 => h9) rfl dX10_round_119 ?_
  refine lv_aload_n hx hb dX10_round_122 rfl (lv_at hl 0 rfl) ?_
  refine va_get (D := G.1) (ci := 10) (v := .ref (a0 44)) (C := RX10) (T := TX10) (N := 52) hx hb hts inlX10 hown hK hPD.1 0 rfl rfl 44 (by decide) (hts _ gw_780) (fun _ h9 => h9) rfl dX10_round_123 ?_
  refine lv_iload hx hb dX10_round_126 (lv_at hl 6 rfl) ?_
  obtain ⟨hi_10, h⟩ := ob h
  refine va_iald hx hb hK hPD.1 27 1 rfl rfl hi_10 dX10_round_128 ?_
  obtain ⟨hi_11, h⟩ := ob h
  refine va_bald hx hb hK hPD.1 26 0 rfl rfl hi_11 dX10_round_129 ?_
  refine lv_iload_n hx hb dX10_round_130 rfl (lv_at hl 2 rfl) ?_
  refine lv_icmp_le (tgt := 137) hx hb dX10_round_131 (by decide) (fun cc1 => ?_) (fun cc1 => ?_)
  · have h := (if_pos cc1).symm.trans h
    refine lv_iconst (v := 0) hx hb dX10_round_137 (by decide) ?_
    refine lv_istore (lv' := [(10, .int 0), (0, .ref h0), (1, .int p1), (2, .int p2), (3, .int p3), (5, .int l5), (6, .int l6), (7, .int l7), (8, .int l8), (9, .int l9)]) hx hb dX10_round_138 hl (by decide) rfl (fun ls hl => ?_)
    exact ww_f10_round_l140 C0 hk66 NF A0 l5 l6 l7 l8 l9 0 h _ _ _ hPD hS (lv_sub hl [1, 2, 3, 4, 5, 6, 7, 8, 9, 0] rfl)
  · have h := (if_neg cc1).symm.trans h
    refine lv_goto (tgt := 233) hx hb dX10_round_134 (by decide) ?_
    refine lv_iinc (v := l7 + 1) (lv' := [(7, .int (l7 + 1)), (0, .ref h0), (1, .int p1), (2, .int p2), (3, .int p3), (5, .int l5), (6, .int l6), (8, .int l8), (9, .int l9)]) hx hb dX10_round_233 hl (k := 6) rfl rfl (by decide) rfl (fun ls hl => ?_)
    refine lv_goto (tgt := 66) hx hb dX10_round_236 (by decide) ?_
    exact hk66 A0 l5 l6 (l7 + 1) h _ _ _ hPD hS (lv_sub hl [1, 2, 3, 4, 5, 6, 0] rfl)
set_option maxRecDepth 100000 in
set_option maxHeartbeats 4000000 in
theorem ww_f10_round_b66  (C0 : Cx cX10_round 12 (some .int) RX10 p s m args meth c G DA) {h0 : Nat} {a0 : Nat → Nat} {f0 : Nat → Int32} {p1 : Int32} {p2 : Int32} {p3 : Int32}  {k66 : (Nat → Nat → Int32) → Int32 → Int32 → Int32 → Option (Int32 × (Nat → Nat → Int32))} {res : Int32 × (Nat → Nat → Int32)}  (hk66 : ∀ (A0 : Nat → Nat → Int32) (l5 : Int32) (l6 : Int32) (l7 : Int32), k66 A0 l5 l6 l7 = some res → ∀ (H : Heap) (locs : List Loc) (ls : Array Slot), WD G DA (wX10 G h0 a0 f0 A0) H → va_S DA s.heap H locs → lv_has ls 12 [(0, .ref h0), (1, .int p1), (2, .int p2), (3, .int p3), (5, .int l5), (6, .int l6), (7, .int l7)] → W p l e rmX10_round s m args below meth c H locs 0 0 (MQ below (QI G DA res.1 (wX10 G h0 a0 f0 res.2)) args s 0 0 DA) (F0 m 66 ls [])) : ∀ (A0 : Nat → Nat → Int32) (l5 : Int32) (l6 : Int32) (l7 : Int32), f10_round_b66 f0 p1 p2 p3  k66 A0 l5 l6 l7 = some res → ∀ (H : Heap) (locs : List Loc) (ls : Array Slot), WD G DA (wX10 G h0 a0 f0 A0) H → va_S DA s.heap H locs → lv_has ls 12 [(0, .ref h0), (1, .int p1), (2, .int p2), (3, .int p3), (5, .int l5), (6, .int l6), (7, .int l7)] → W p l e rmX10_round s m args below meth c H locs 0 0 (MQ below (QI G DA res.1 (wX10 G h0 a0 f0 res.2)) args s 0 0 DA) (F0 m 66 ls []) := by
  obtain ⟨hx, hb, hml, hown, hts⟩ := C0.1
  have hK := C0.2.2.2.1
  intro A0 l5 l6 l7 h _ _ _ hPD hS hl
  unfold f10_round_b66 at h
  refine lv_iload hx hb dX10_round_66 (lv_at hl 6 rfl) ?_
  refine lv_iload hx hb dX10_round_68 (lv_at hl 4 rfl) ?_
  refine lv_icmp_ge (tgt := 239) hx hb dX10_round_70 (by decide) (fun cc1 => ?_) (fun cc1 => ?_)
  · have h := (if_pos cc1).symm.trans h
    refine lv_iconst (v := 0) hx hb dX10_round_239 (by decide) ?_
    refine lv_istore (lv' := [(7, .int 0), (0, .ref h0), (1, .int p1), (2, .int p2), (3, .int p3), (5, .int l5), (6, .int l6)]) hx hb dX10_round_240 hl (by decide) rfl (fun ls hl => ?_)
    exact ww_f10_round_l242 C0 NF A0 l5 l6 0 h _ _ _ hPD hS (lv_sub hl [1, 2, 3, 4, 5, 6, 0] rfl)
  · have h := (if_neg cc1).symm.trans h
    refine lv_aload_n hx hb dX10_round_73 rfl (lv_at hl 0 rfl) ?_
    refine va_get (D := G.1) (ci := 10) (v := .ref (a0 44)) (C := RX10) (T := TX10) (N := 52) hx hb hts inlX10 hown hK hPD.1 0 rfl rfl 44 (by decide) (hts _ gw_780) (fun _ h9 => h9) rfl dX10_round_74 ?_
    refine lv_iload hx hb dX10_round_77 (lv_at hl 6 rfl) ?_
    obtain ⟨hi_8, h⟩ := ob h
    refine va_iald hx hb hK hPD.1 27 1 rfl rfl hi_8 dX10_round_79 ?_
    refine lv_bipush (v := 16) hx hb dX10_round_80 (by decide) ?_
    refine lv_idiv hx hb dX10_round_82 (by decide) ?_
    refine lv_istore (lv' := [(8, .int ((gx (A0 44) l7) / 16)), (0, .ref h0), (1, .int p1), (2, .int p2), (3, .int p3), (5, .int l5), (6, .int l6), (7, .int l7)]) hx hb dX10_round_83 hl (by decide) rfl (fun ls hl => ?_)
    refine lv_aload_n hx hb dX10_round_85 rfl (lv_at hl 1 rfl) ?_
    refine va_get (D := G.1) (ci := 10) (v := .ref (a0 44)) (C := RX10) (T := TX10) (N := 52) hx hb hts inlX10 hown hK hPD.1 0 rfl rfl 44 (by decide) (hts _ gw_780) (fun _ h9 => h9) rfl dX10_round_86 ?_
    refine lv_iload hx hb dX10_round_89 (lv_at hl 7 rfl) ?_
    obtain ⟨hi_9, h⟩ := ob h
    refine va_iald hx hb hK hPD.1 27 1 rfl rfl hi_9 dX10_round_91 ?_
    refine lv_bipush (v := 16) hx hb dX10_round_92 (by decide) ?_
    refine lv_irem hx hb dX10_round_94 (by decide) ?_
    refine lv_istore (lv' := [(9, .int (irm (gx (A0 44) l7) 16)), (8, .int ((gx (A0 44) l7) / 16)), (0, .ref h0), (1, .int p1), (2, .int p2), (3, .int p3), (5, .int l5), (6, .int l6), (7, .int l7)]) hx hb dX10_round_95 hl (by decide) rfl (fun ls hl => ?_)
    refine lv_iload hx hb dX10_round_97 (lv_at hl 0 rfl) ?_
    refine lv_iload_n hx hb dX10_round_99 rfl (lv_at hl 3 rfl) ?_
    refine lv_icmp_ne (tgt := 118) hx hb dX10_round_100 (by decide) (fun cc1 => ?_) (fun cc1 => ?_)
    · have h := (if_neg cc1).symm.trans h
      exact ww_f10_round_b118 C0 hk66 A0 l5 l6 l7 ((gx (A0 44) l7) / 16) (irm (gx (A0 44) l7) 16) h _ _ _ hPD hS (lv_sub hl [2, 3, 4, 5, 6, 7, 8, 1, 0] rfl)
    · have h := (if_pos cc1).symm.trans h
      refine lv_aload_n hx hb dX10_round_103 rfl (lv_at hl 2 rfl) ?_
      refine lv_iload hx hb dX10_round_104 (lv_at hl 1 rfl) ?_
      refine lv_iload hx hb dX10_round_106 (lv_at hl 7 rfl) ?_
      obtain ⟨q_20, hq_20, h⟩ := ob2 h
      refine kVI (As := [.int ((gx (A0 44) l7) / 16), .int l6]) (rest := []) C0 (kt_X10_isBetter l G h0 a0 f0 A0 ((gx (A0 44) l7) / 16) l6 hq_20) gi_V_X10_338_X10_isBetter (n := 2) rfl (by decide +kernel) rfl ⟨rfl, rfl, Nat.le_of_ble_eq_true rfl, Nat.le_of_ble_eq_true rfl⟩ hPD hS 0 10 rfl rfl rfl [0, 1, 2, 3, 4, 5, 6, 7, 8, 9, 10, 11, 12, 13, 14, 15, 16, 17, 18, 19, 20, 21, 22, 23, 24, 25, 26, 27, 28, 29, 30, 31, 32, 33] [] [0, 1, 2, 3, 4, 5, 6, 7, 8, 9, 10, 11, 12, 13, 14, 15, 16, 17, 18, 19, 20, 21, 22, 23, 24, 25, 26, 27, 28, 29, 30, 31, 32, 33] (wN := (wX10 G h0 a0 f0 A0)) rfl rfl rfl rfl rfl hl.1 (Nat.le_of_ble_eq_true rfl) dX10_round_108 (fun H locs hPD hS => ?_)
      refine lv_if_eq (tgt := 118) hx hb dX10_round_111 (by decide) (fun cc1 => ?_) (fun cc1 => ?_)
      · have h := (if_pos cc1).symm.trans h
        exact ww_f10_round_b118 C0 hk66 A0 l5 l6 l7 ((gx (A0 44) l7) / 16) (irm (gx (A0 44) l7) 16) h _ _ _ hPD hS (lv_sub hl [2, 3, 4, 5, 6, 7, 8, 1, 0] rfl)
      · have h := (if_neg cc1).symm.trans h
        refine lv_iload hx hb dX10_round_114 (lv_at hl 1 rfl) ?_
        refine lv_istore (lv' := [(6, .int ((gx (A0 44) l7) / 16)), (9, .int (irm (gx (A0 44) l7) 16)), (8, .int ((gx (A0 44) l7) / 16)), (0, .ref h0), (1, .int p1), (2, .int p2), (3, .int p3), (5, .int l5), (7, .int l7)]) hx hb dX10_round_116 hl (by decide) rfl (fun ls hl => ?_)
        exact ww_f10_round_b118 C0 hk66 A0 l5 ((gx (A0 44) l7) / 16) l7 ((gx (A0 44) l7) / 16) (irm (gx (A0 44) l7) 16) h _ _ _ hPD hS (lv_sub hl [3, 4, 5, 6, 7, 0, 8, 2, 1] rfl)
set_option maxRecDepth 100000 in
set_option maxHeartbeats 4000000 in
theorem ww_f10_round_l66  (C0 : Cx cX10_round 12 (some .int) RX10 p s m args meth c G DA) {h0 : Nat} {a0 : Nat → Nat} {f0 : Nat → Int32} {p1 : Int32} {p2 : Int32} {p3 : Int32}   {res : Int32 × (Nat → Nat → Int32)}  : ∀ (n : Nat) (A0 : Nat → Nat → Int32) (l5 : Int32) (l6 : Int32) (l7 : Int32), f10_round_l66 f0 p1 p2 p3  n A0 l5 l6 l7 = some res → ∀ (H : Heap) (locs : List Loc) (ls : Array Slot), WD G DA (wX10 G h0 a0 f0 A0) H → va_S DA s.heap H locs → lv_has ls 12 [(0, .ref h0), (1, .int p1), (2, .int p2), (3, .int p3), (5, .int l5), (6, .int l6), (7, .int l7)] → W p l e rmX10_round s m args below meth c H locs 0 0 (MQ below (QI G DA res.1 (wX10 G h0 a0 f0 res.2)) args s 0 0 DA) (F0 m 66 ls []) := by
  intro n
  induction n with
  | zero => intro A0 l5 l6 l7 h; cases h
  | succ n ih => intro A0 l5 l6 l7 h; exact ww_f10_round_b66 C0  ih A0 l5 l6 l7 h
set_option maxRecDepth 100000 in
set_option maxHeartbeats 4000000 in
theorem kt_X10_round (l : Launch) (G : Gp) (h0 : Nat) (a0 : Nat → Nat) (f0 : Nat → Int32) (A0 : Nat → Nat → Int32) (p1 : Int32) (p2 : Int32) (p3 : Int32) : ∀ {r : Int32 × (Nat → Nat → Int32)}, f10_round f0 A0 p1 p2 p3 = some r → CtrI l yX10_round cX10_round 12 (some .int) rmX10_round G [.ref h0, .int p1, .int p2, .int p3] (wX10 G h0 a0 f0 A0) r.1 (wX10 G h0 a0 f0 r.2) := by
  intro res h
  refine ctrI_of (cc := cX10_round) (maxL := 12) (ret := (some .int)) (by decide +kernel) rfl (Nat.le_of_ble_eq_true rfl) (fun p e s m below meth c DA C0 hP hD ls hl => ?_)
  have hPD : WD G DA (wX10 G h0 a0 f0 A0) s.heap := ⟨hP, hD⟩
  have hS : va_S DA s.heap s.heap [] := va_S.rf
  have hl : lv_has ls 12 [(0, .ref h0), (1, .int p1), (2, .int p2), (3, .int p3)] := hl
  obtain ⟨hx, hb, hml, hown, hts⟩ := C0.1
  have hK := C0.2.2.2.1
  unfold f10_round at h
  refine lv_aload_n hx hb dX10_round_0 rfl (lv_at hl 0 rfl) ?_
  refine lv_iload_n hx hb dX10_round_1 rfl (lv_at hl 1 rfl) ?_
  refine kVI (As := [.int p1]) (rest := []) C0 (kt_X10_isTold l G h0 a0 f0 A0 p1) gi_V_X10_128_X10_isTold (n := 1) rfl (by decide +kernel) rfl ⟨rfl, rfl, Nat.le_of_ble_eq_true rfl, Nat.le_of_ble_eq_true rfl⟩ hPD hS 0 10 rfl rfl rfl [0, 1, 2, 3, 4, 5, 6, 7, 8, 9, 10, 11, 12, 13, 14, 15, 16, 17, 18, 19, 20, 21, 22, 23, 24, 25, 26, 27, 28, 29, 30, 31, 32, 33] [] [0, 1, 2, 3, 4, 5, 6, 7, 8, 9, 10, 11, 12, 13, 14, 15, 16, 17, 18, 19, 20, 21, 22, 23, 24, 25, 26, 27, 28, 29, 30, 31, 32, 33] (wN := (wX10 G h0 a0 f0 A0)) rfl rfl rfl rfl rfl hl.1 (Nat.le_of_ble_eq_true rfl) dX10_round_2 (fun H locs hPD hS => ?_)
  refine lv_if_eq (tgt := 27) hx hb dX10_round_5 (by decide) (fun cc1 => ?_) (fun cc1 => ?_)
  · have h := (if_pos cc1).symm.trans h
    refine lv_iconst (v := (-1)) hx hb dX10_round_27 (by decide) ?_
    obtain rfl := Option.some.inj h
    exact eI C0 hPD.1 hPD.2 hS rfl dX10_round_28
  · have h := (if_neg cc1).symm.trans h
    refine lv_iload_n hx hb dX10_round_8 rfl (lv_at hl 2 rfl) ?_
    refine lv_iconst (v := 1) hx hb dX10_round_9 (by decide) ?_
    refine lv_bipush (v := 8) hx hb dX10_round_10 (by decide) ?_
    refine kSI (As := [.int p2, .int 1, .int 8]) (rest := []) C0 (kt_X10_in l G  p2 1 8) gi_S_X10_112_X10_in (n := 3) rfl (by decide +kernel) ⟨rfl, rfl, Nat.le_of_ble_eq_true rfl, Nat.le_of_ble_eq_true rfl⟩ hPD hS [] [0, 1, 2, 3, 4, 5, 6, 7, 8, 9, 10, 11, 12, 13, 14, 15, 16, 17, 18, 19, 20, 21, 22, 23, 24, 25, 26, 27, 28, 29, 30, 31, 32, 33] [0, 1, 2, 3, 4, 5, 6, 7, 8, 9, 10, 11, 12, 13, 14, 15, 16, 17, 18, 19, 20, 21, 22, 23, 24, 25, 26, 27, 28, 29, 30, 31, 32, 33] (wN := (wX10 G h0 a0 f0 A0)) rfl rfl rfl rfl rfl hl.1 (Nat.le_of_ble_eq_true rfl) dX10_round_12 (fun H locs hPD hS => ?_)
    refine lv_if_eq (tgt := 27) hx hb dX10_round_15 (by decide) (fun cc1 => ?_) (fun cc1 => ?_)
    · have h := (if_pos cc1).symm.trans h
      refine lv_iconst (v := (-1)) hx hb dX10_round_27 (by decide) ?_
      obtain rfl := Option.some.inj h
      exact eI C0 hPD.1 hPD.2 hS rfl dX10_round_28
    · have h := (if_neg cc1).symm.trans h
      refine lv_iload_n hx hb dX10_round_18 rfl (lv_at hl 3 rfl) ?_
      refine lv_iconst (v := 0) hx hb dX10_round_19 (by decide) ?_
      refine lv_iconst (v := 1) hx hb dX10_round_20 (by decide) ?_
      refine kSI (As := [.int p3, .int 0, .int 1]) (rest := []) C0 (kt_X10_in l G  p3 0 1) gi_S_X10_112_X10_in (n := 3) rfl (by decide +kernel) ⟨rfl, rfl, Nat.le_of_ble_eq_true rfl, Nat.le_of_ble_eq_true rfl⟩ hPD hS [] [0, 1, 2, 3, 4, 5, 6, 7, 8, 9, 10, 11, 12, 13, 14, 15, 16, 17, 18, 19, 20, 21, 22, 23, 24, 25, 26, 27, 28, 29, 30, 31, 32, 33] [0, 1, 2, 3, 4, 5, 6, 7, 8, 9, 10, 11, 12, 13, 14, 15, 16, 17, 18, 19, 20, 21, 22, 23, 24, 25, 26, 27, 28, 29, 30, 31, 32, 33] (wN := (wX10 G h0 a0 f0 A0)) rfl rfl rfl rfl rfl hl.1 (Nat.le_of_ble_eq_true rfl) dX10_round_21 (fun H locs hPD hS => ?_)
      refine lv_if_ne (tgt := 29) hx hb dX10_round_24 (by decide) (fun cc1 => ?_) (fun cc1 => ?_)
      · have h := (if_neg cc1).symm.trans h
        refine lv_bipush (v := 16) hx hb dX10_round_29 (by decide) ?_
        refine lv_iconst (v := 1) hx hb dX10_round_31 (by decide) ?_
        refine lv_iload_n hx hb dX10_round_32 rfl (lv_at hl 1 rfl) ?_
        refine lv_ishl hx hb dX10_round_33 ?_
        refine lv_imul hx hb dX10_round_34 ?_
        refine lv_iload_n hx hb dX10_round_35 rfl (lv_at hl 1 rfl) ?_
        refine lv_iadd hx hb dX10_round_36 ?_
        refine lv_istore (lv' := [(4, .int ((16 * (shl 1 p1)) + p1)), (0, .ref h0), (1, .int p1), (2, .int p2), (3, .int p3)]) hx hb dX10_round_37 hl (by decide) rfl (fun ls hl => ?_)
        refine lv_aload_n hx hb dX10_round_39 rfl (lv_at hl 1 rfl) ?_
        refine va_get (D := G.1) (ci := 10) (v := .ref (a0 44)) (C := RX10) (T := TX10) (N := 52) hx hb hts inlX10 hown hK hPD.1 0 rfl rfl 44 (by decide) (hts _ gw_780) (fun _ h9 => h9) rfl dX10_round_40 ?_
        refine lv_iconst (v := 0) hx hb dX10_round_43 (by decide) ?_
        refine lv_iload hx hb dX10_round_44 (lv_at hl 0 rfl) ?_
        refine va_iast hx hb hK hPD.1 hPD.2 hS 27 1 rfl rfl (vin rfl) dX10_round_46 (fun H locs hP hD hS => ?_)
        obtain ⟨A0_1, eA0_1, h⟩ := lvl h
        have hPD : WD G DA (wX10 G h0 a0 f0 A0_1) H := by rw [eA0_1]; exact ⟨hP, hD⟩
        clear eA0_1 hP hD
        refine lv_aload_n hx hb dX10_round_47 rfl (lv_at hl 1 rfl) ?_
        refine va_get (D := G.1) (ci := 10) (v := .ref (a0 43)) (C := RX10) (T := TX10) (N := 52) hx hb hts inlX10 hown hK hPD.1 0 rfl rfl 43 (by decide) (hts _ gw_781) (fun _ h9 => h9) rfl dX10_round_48 ?_
        refine lv_iload hx hb dX10_round_51 (lv_at hl 0 rfl) ?_
        refine lv_iconst (v := 1) hx hb dX10_round_53 (by decide) ?_
        obtain ⟨hi_2, h⟩ := ob h
        refine va_bast hx hb hK hPD.1 hPD.2 hS 26 0 rfl rfl hi_2 dX10_round_54 (fun H locs hP hD hS => ?_)
        obtain ⟨A0_3, eA0_3, h⟩ := lvl h
        have hPD : WD G DA (wX10 G h0 a0 f0 A0_3) H := by rw [eA0_3]; exact ⟨hP, hD⟩
        clear eA0_3 hP hD
        refine lv_iconst (v := 1) hx hb dX10_round_55 (by decide) ?_
        refine lv_istore (lv' := [(5, .int 1), (4, .int ((16 * (shl 1 p1)) + p1)), (0, .ref h0), (1, .int p1), (2, .int p2), (3, .int p3)]) hx hb dX10_round_56 hl (by decide) rfl (fun ls hl => ?_)
        refine lv_iconst (v := 1) hx hb dX10_round_58 (by decide) ?_
        refine lv_iload_n hx hb dX10_round_59 rfl (lv_at hl 3 rfl) ?_
        refine lv_ishl hx hb dX10_round_60 ?_
        refine lv_istore (lv' := [(6, .int (shl 1 p1)), (5, .int 1), (4, .int ((16 * (shl 1 p1)) + p1)), (0, .ref h0), (1, .int p1), (2, .int p2), (3, .int p3)]) hx hb dX10_round_61 hl (by decide) rfl (fun ls hl => ?_)
        refine lv_iconst (v := 0) hx hb dX10_round_63 (by decide) ?_
        refine lv_istore (lv' := [(7, .int 0), (6, .int (shl 1 p1)), (5, .int 1), (4, .int ((16 * (shl 1 p1)) + p1)), (0, .ref h0), (1, .int p1), (2, .int p2), (3, .int p3)]) hx hb dX10_round_64 hl (by decide) rfl (fun ls hl => ?_)
        exact ww_f10_round_l66 C0 NF A0_3 1 (shl 1 p1) 0 h _ _ _ hPD hS (lv_sub hl [4, 5, 6, 7, 2, 1, 0] rfl)
      · have h := (if_pos cc1).symm.trans h
        refine lv_iconst (v := (-1)) hx hb dX10_round_27 (by decide) ?_
        obtain rfl := Option.some.inj h
        exact eI C0 hPD.1 hPD.2 hS rfl dX10_round_28
abbrev rmX10_laysSteps : Room := { frames := 1, cells := 0, slots := 0, locals := 21 }
set_option maxRecDepth 100000 in
set_option maxHeartbeats 4000000 in
theorem ww_f10_laysSteps_b133  (C0 : Cx cX10_laysSteps 6 none RX10 p s m args meth c G DA) {h0 : Nat} {a0 : Nat → Nat} {f0 : Nat → Int32} {p1 : Int32}  {k69 : (Nat → Nat → Int32) → Int32 → Int32 → Int32 → Int32 → Option ((Nat → Nat → Int32))} {res : (Nat → Nat → Int32)} (hk69 : ∀ (A0 : Nat → Nat → Int32) (l2 : Int32) (l3 : Int32) (l4 : Int32) (l5 : Int32), k69 A0 l2 l3 l4 l5 = some res → ∀ (H : Heap) (locs : List Loc) (ls : Array Slot), WD G DA (wX10 G h0 a0 f0 A0) H → va_S DA s.heap H locs → lv_has ls 6 [(0, .ref h0), (1, .int p1), (2, .int l2), (3, .int l3), (4, .int l4), (5, .int l5)] → W p l e rmX10_laysSteps s m args below meth c H locs 0 0 (MQ below (QV G DA (wX10 G h0 a0 f0 res)) args s 0 0 DA) (F0 m 69 ls [])) : ∀ (A0 : Nat → Nat → Int32) (l2 : Int32) (l3 : Int32) (l4 : Int32) (l5 : Int32), f10_laysSteps_b133 f0 p1 k69 A0 l2 l3 l4 l5 = some res → ∀ (H : Heap) (locs : List Loc) (ls : Array Slot), WD G DA (wX10 G h0 a0 f0 A0) H → va_S DA s.heap H locs → lv_has ls 6 [(0, .ref h0), (1, .int p1), (2, .int l2), (3, .int l3), (4, .int l4), (5, .int l5)] → W p l e rmX10_laysSteps s m args below meth c H locs 0 0 (MQ below (QV G DA (wX10 G h0 a0 f0 res)) args s 0 0 DA) (F0 m 133 ls []) := by
  obtain ⟨hx, hb, hml, hown, hts⟩ := C0.1
  have hK := C0.2.2.2.1
  intro A0 l2 l3 l4 l5 h _ _ _ hPD hS hl
  unfold f10_laysSteps_b133 at h
  refine lv_aload_n hx hb dX10_laysSteps_133 rfl (lv_at hl 0 rfl) ?_
  refine va_get (D := G.1) (ci := 10) (v := .ref (a0 46)) (C := RX10) (T := TX10) (N := 52) hx hb hts inlX10 hown hK hPD.1 0 rfl rfl 46 (by decide) (hts _ gw_786) (fun _ h9 => h9) rfl dX10_laysSteps_134 ?_
  refine lv_iload hx hb dX10_laysSteps_137 (lv_at hl 5 rfl) ?_
  obtain ⟨hi_9, h⟩ := ob h
  refine va_iald hx hb hK hPD.1 29 1 rfl rfl hi_9 dX10_laysSteps_139 ?_
  refine lv_aload_n hx hb dX10_laysSteps_140 rfl (lv_at hl 0 rfl) ?_
  refine va_get (D := G.1) (ci := 10) (v := .ref (a0 46)) (C := RX10) (T := TX10) (N := 52) hx hb hts inlX10 hown hK hPD.1 0 rfl rfl 46 (by decide) (hts _ gw_786) (fun _ h9 => h9) rfl dX10_laysSteps_141 ?_
  refine lv_iload hx hb dX10_laysSteps_144 (lv_at hl 4 rfl) ?_
  obtain ⟨hi_10, h⟩ := ob h
  refine va_iald hx hb hK hPD.1 29 1 rfl rfl hi_10 dX10_laysSteps_146 ?_
  refine lv_iconst (v := 1) hx hb dX10_laysSteps_147 (by decide) ?_
  refine lv_iadd hx hb dX10_laysSteps_148 ?_
  refine lv_icmp_ne (tgt := 174) hx hb dX10_laysSteps_149 (by decide) (fun cc1 => ?_) (fun cc1 => ?_)
  · have h := (if_neg cc1).symm.trans h
    refine lv_iinc (v := l5 + 1) (lv' := [(5, .int (l5 + 1)), (0, .ref h0), (1, .int p1), (2, .int l2), (3, .int l3), (4, .int l4)]) hx hb dX10_laysSteps_174 hl (k := 5) rfl rfl (by decide) rfl (fun ls hl => ?_)
    refine lv_goto (tgt := 69) hx hb dX10_laysSteps_177 (by decide) ?_
    exact hk69 A0 l2 l3 l4 (l5 + 1) h _ _ _ hPD hS (lv_sub hl [1, 2, 3, 4, 5, 0] rfl)
  · have h := (if_pos cc1).symm.trans h
    refine lv_aload_n hx hb dX10_laysSteps_152 rfl (lv_at hl 0 rfl) ?_
    refine va_get (D := G.1) (ci := 10) (v := .ref (a0 47)) (C := RX10) (T := TX10) (N := 52) hx hb hts inlX10 hown hK hPD.1 0 rfl rfl 47 (by decide) (hts _ gw_787) (fun _ h9 => h9) rfl dX10_laysSteps_153 ?_
    refine lv_iload hx hb dX10_laysSteps_156 (lv_at hl 5 rfl) ?_
    refine lv_aload_n hx hb dX10_laysSteps_158 rfl (lv_at hl 0 rfl) ?_
    refine va_get (D := G.1) (ci := 10) (v := .ref (a0 47)) (C := RX10) (T := TX10) (N := 52) hx hb hts inlX10 hown hK hPD.1 0 rfl rfl 47 (by decide) (hts _ gw_787) (fun _ h9 => h9) rfl dX10_laysSteps_159 ?_
    refine lv_iload hx hb dX10_laysSteps_162 (lv_at hl 5 rfl) ?_
    obtain ⟨hi_11, h⟩ := ob h
    refine va_iald hx hb hK hPD.1 30 1 rfl rfl hi_11 dX10_laysSteps_164 ?_
    refine lv_aload_n hx hb dX10_laysSteps_165 rfl (lv_at hl 0 rfl) ?_
    refine va_get (D := G.1) (ci := 10) (v := .ref (a0 47)) (C := RX10) (T := TX10) (N := 52) hx hb hts inlX10 hown hK hPD.1 0 rfl rfl 47 (by decide) (hts _ gw_787) (fun _ h9 => h9) rfl dX10_laysSteps_166 ?_
    refine lv_iload hx hb dX10_laysSteps_169 (lv_at hl 4 rfl) ?_
    obtain ⟨hi_12, h⟩ := ob h
    refine va_iald hx hb hK hPD.1 30 1 rfl rfl hi_12 dX10_laysSteps_171 ?_
    refine lv_iadd hx hb dX10_laysSteps_172 ?_
    obtain ⟨hi_13, h⟩ := ob h
    refine va_iast hx hb hK hPD.1 hPD.2 hS 30 1 rfl rfl hi_13 dX10_laysSteps_173 (fun H locs hP hD hS => ?_)
    obtain ⟨A0_14, eA0_14, h⟩ := lvl h
    have hPD : WD G DA (wX10 G h0 a0 f0 A0_14) H := by rw [eA0_14]; exact ⟨hP, hD⟩
    clear eA0_14 hP hD
    refine lv_iinc (v := l5 + 1) (lv' := [(5, .int (l5 + 1)), (0, .ref h0), (1, .int p1), (2, .int l2), (3, .int l3), (4, .int l4)]) hx hb dX10_laysSteps_174 hl (k := 5) rfl rfl (by decide) rfl (fun ls hl => ?_)
    refine lv_goto (tgt := 69) hx hb dX10_laysSteps_177 (by decide) ?_
    exact hk69 A0_14 l2 l3 l4 (l5 + 1) h _ _ _ hPD hS (lv_sub hl [1, 2, 3, 4, 5, 0] rfl)
set_option maxRecDepth 100000 in
set_option maxHeartbeats 4000000 in
theorem ww_f10_laysSteps_b69  (C0 : Cx cX10_laysSteps 6 none RX10 p s m args meth c G DA) {h0 : Nat} {a0 : Nat → Nat} {f0 : Nat → Int32} {p1 : Int32}  {k53 : (Nat → Nat → Int32) → Int32 → Int32 → Option ((Nat → Nat → Int32))} {k69 : (Nat → Nat → Int32) → Int32 → Int32 → Int32 → Int32 → Option ((Nat → Nat → Int32))} {res : (Nat → Nat → Int32)} (hk53 : ∀ (A0 : Nat → Nat → Int32) (l2 : Int32) (l3 : Int32), k53 A0 l2 l3 = some res → ∀ (H : Heap) (locs : List Loc) (ls : Array Slot), WD G DA (wX10 G h0 a0 f0 A0) H → va_S DA s.heap H locs → lv_has ls 6 [(0, .ref h0), (1, .int p1), (2, .int l2), (3, .int l3)] → W p l e rmX10_laysSteps s m args below meth c H locs 0 0 (MQ below (QV G DA (wX10 G h0 a0 f0 res)) args s 0 0 DA) (F0 m 53 ls [])) (hk69 : ∀ (A0 : Nat → Nat → Int32) (l2 : Int32) (l3 : Int32) (l4 : Int32) (l5 : Int32), k69 A0 l2 l3 l4 l5 = some res → ∀ (H : Heap) (locs : List Loc) (ls : Array Slot), WD G DA (wX10 G h0 a0 f0 A0) H → va_S DA s.heap H locs → lv_has ls 6 [(0, .ref h0), (1, .int p1), (2, .int l2), (3, .int l3), (4, .int l4), (5, .int l5)] → W p l e rmX10_laysSteps s m args below meth c H locs 0 0 (MQ below (QV G DA (wX10 G h0 a0 f0 res)) args s 0 0 DA) (F0 m 69 ls [])) : ∀ (A0 : Nat → Nat → Int32) (l2 : Int32) (l3 : Int32) (l4 : Int32) (l5 : Int32), f10_laysSteps_b69 f0 p1 k53 k69 A0 l2 l3 l4 l5 = some res → ∀ (H : Heap) (locs : List Loc) (ls : Array Slot), WD G DA (wX10 G h0 a0 f0 A0) H → va_S DA s.heap H locs → lv_has ls 6 [(0, .ref h0), (1, .int p1), (2, .int l2), (3, .int l3), (4, .int l4), (5, .int l5)] → W p l e rmX10_laysSteps s m args below meth c H locs 0 0 (MQ below (QV G DA (wX10 G h0 a0 f0 res)) args s 0 0 DA) (F0 m 69 ls []) := by
  obtain ⟨hx, hb, hml, hown, hts⟩ := C0.1
  have hK := C0.2.2.2.1
  intro A0 l2 l3 l4 l5 h _ _ _ hPD hS hl
  unfold f10_laysSteps_b69 at h
  refine lv_iload hx hb dX10_laysSteps_69 (lv_at hl 5 rfl) ?_
  refine lv_bipush (v := 16) hx hb dX10_laysSteps_71 (by decide) ?_
  refine lv_icmp_ge (tgt := 180) hx hb dX10_laysSteps_73 (by decide) (fun cc1 => ?_) (fun cc1 => ?_)
  · have h := (if_pos cc1).symm.trans h
    refine lv_iinc (v := l3 + 1) (lv' := [(3, .int (l3 + 1)), (0, .ref h0), (1, .int p1), (2, .int l2), (4, .int l4), (5, .int l5)]) hx hb dX10_laysSteps_180 hl (k := 3) rfl rfl (by decide) rfl (fun ls hl => ?_)
    refine lv_goto (tgt := 53) hx hb dX10_laysSteps_183 (by decide) ?_
    exact hk53 A0 l2 (l3 + 1) h _ _ _ hPD hS (lv_sub hl [1, 2, 3, 0] rfl)
  · have h := (if_neg cc1).symm.trans h
    refine lv_aload_n hx hb dX10_laysSteps_76 rfl (lv_at hl 0 rfl) ?_
    refine va_get (D := G.1) (ci := 10) (v := .ref (a0 3)) (C := RX10) (T := TX10) (N := 52) hx hb hts inlX10 hown hK hPD.1 0 rfl rfl 3 (by decide) (hts _ gw_666) (fun _ h9 => h9) rfl dX10_laysSteps_77 ?_
    refine lv_iload hx hb dX10_laysSteps_80 (lv_at hl 4 rfl) ?_
    obtain ⟨hi_7, h⟩ := ob h
    refine va_iald hx hb hK hPD.1 4 1 rfl rfl hi_7 dX10_laysSteps_82 ?_
    refine lv_iload hx hb dX10_laysSteps_83 (lv_at hl 5 rfl) ?_
    refine kSI (As := [.int (gx (A0 3) l4), .int l5]) (rest := []) C0 (kt_X10_has l G  (gx (A0 3) l4) l5) gi_S_X10_120_X10_has (n := 2) rfl (by decide +kernel) ⟨rfl, rfl, Nat.le_of_ble_eq_true rfl, Nat.le_of_ble_eq_true rfl⟩ hPD hS [] [0, 1, 2, 3, 4, 5, 6, 7, 8, 9, 10, 11, 12, 13, 14, 15, 16, 17, 18, 19, 20, 21, 22, 23, 24, 25, 26, 27, 28, 29, 30, 31, 32, 33] [0, 1, 2, 3, 4, 5, 6, 7, 8, 9, 10, 11, 12, 13, 14, 15, 16, 17, 18, 19, 20, 21, 22, 23, 24, 25, 26, 27, 28, 29, 30, 31, 32, 33] (wN := (wX10 G h0 a0 f0 A0)) rfl rfl rfl rfl rfl hl.1 (Nat.le_of_ble_eq_true rfl) dX10_laysSteps_85 (fun H locs hPD hS => ?_)
    refine lv_if_ne (tgt := 94) hx hb dX10_laysSteps_88 (by decide) (fun cc1 => ?_) (fun cc1 => ?_)
    · have h := (if_neg cc1).symm.trans h
      refine lv_aload_n hx hb dX10_laysSteps_94 rfl (lv_at hl 0 rfl) ?_
      refine va_get (D := G.1) (ci := 10) (v := .ref (a0 46)) (C := RX10) (T := TX10) (N := 52) hx hb hts inlX10 hown hK hPD.1 0 rfl rfl 46 (by decide) (hts _ gw_786) (fun _ h9 => h9) rfl dX10_laysSteps_95 ?_
      refine lv_iload hx hb dX10_laysSteps_98 (lv_at hl 5 rfl) ?_
      obtain ⟨hi_8, h⟩ := ob h
      refine va_iald hx hb hK hPD.1 29 1 rfl rfl hi_8 dX10_laysSteps_100 ?_
      refine lv_iconst (v := (-1)) hx hb dX10_laysSteps_101 (by decide) ?_
      refine lv_icmp_ne (tgt := 133) hx hb dX10_laysSteps_102 (by decide) (fun cc1 => ?_) (fun cc1 => ?_)
      · have h := (if_neg cc1).symm.trans h
        exact ww_f10_laysSteps_b133 C0 hk69 A0 l2 l3 l4 l5 h _ _ _ hPD hS (lv_sub hl [0, 1, 2, 3, 4, 5] rfl)
      · have h := (if_pos cc1).symm.trans h
        refine lv_aload_n hx hb dX10_laysSteps_105 rfl (lv_at hl 0 rfl) ?_
        refine va_get (D := G.1) (ci := 10) (v := .ref (a0 46)) (C := RX10) (T := TX10) (N := 52) hx hb hts inlX10 hown hK hPD.1 0 rfl rfl 46 (by decide) (hts _ gw_786) (fun _ h9 => h9) rfl dX10_laysSteps_106 ?_
        refine lv_iload hx hb dX10_laysSteps_109 (lv_at hl 5 rfl) ?_
        refine lv_aload_n hx hb dX10_laysSteps_111 rfl (lv_at hl 0 rfl) ?_
        refine va_get (D := G.1) (ci := 10) (v := .ref (a0 46)) (C := RX10) (T := TX10) (N := 52) hx hb hts inlX10 hown hK hPD.1 0 rfl rfl 46 (by decide) (hts _ gw_786) (fun _ h9 => h9) rfl dX10_laysSteps_112 ?_
        refine lv_iload hx hb dX10_laysSteps_115 (lv_at hl 4 rfl) ?_
        obtain ⟨hi_15, h⟩ := ob h
        refine va_iald hx hb hK hPD.1 29 1 rfl rfl hi_15 dX10_laysSteps_117 ?_
        refine lv_iconst (v := 1) hx hb dX10_laysSteps_118 (by decide) ?_
        refine lv_iadd hx hb dX10_laysSteps_119 ?_
        obtain ⟨hi_16, h⟩ := ob h
        refine va_iast hx hb hK hPD.1 hPD.2 hS 29 1 rfl rfl hi_16 dX10_laysSteps_120 (fun H locs hP hD hS => ?_)
        obtain ⟨A0_17, eA0_17, h⟩ := lvl h
        have hPD : WD G DA (wX10 G h0 a0 f0 A0_17) H := by rw [eA0_17]; exact ⟨hP, hD⟩
        clear eA0_17 hP hD
        refine lv_aload_n hx hb dX10_laysSteps_121 rfl (lv_at hl 0 rfl) ?_
        refine va_get (D := G.1) (ci := 10) (v := .ref (a0 45)) (C := RX10) (T := TX10) (N := 52) hx hb hts inlX10 hown hK hPD.1 0 rfl rfl 45 (by decide) (hts _ gw_788) (fun _ h9 => h9) rfl dX10_laysSteps_122 ?_
        refine lv_iload_n hx hb dX10_laysSteps_125 rfl (lv_at hl 2 rfl) ?_
        refine lv_iload hx hb dX10_laysSteps_126 (lv_at hl 5 rfl) ?_
        obtain ⟨hi_18, h⟩ := ob h
        refine va_iast hx hb hK hPD.1 hPD.2 hS 28 1 rfl rfl hi_18 dX10_laysSteps_128 (fun H locs hP hD hS => ?_)
        obtain ⟨A0_19, eA0_19, h⟩ := lvl h
        have hPD : WD G DA (wX10 G h0 a0 f0 A0_19) H := by rw [eA0_19]; exact ⟨hP, hD⟩
        clear eA0_19 hP hD
        refine lv_iload_n hx hb dX10_laysSteps_129 rfl (lv_at hl 2 rfl) ?_
        refine lv_iconst (v := 1) hx hb dX10_laysSteps_130 (by decide) ?_
        refine lv_iadd hx hb dX10_laysSteps_131 ?_
        refine lv_istore_n (lv' := [(2, .int (l2 + 1)), (0, .ref h0), (1, .int p1), (3, .int l3), (4, .int l4), (5, .int l5)]) hx hb dX10_laysSteps_132 rfl hl (by decide) rfl (fun ls hl => ?_)
        exact ww_f10_laysSteps_b133 C0 hk69 A0_19 (l2 + 1) l3 l4 l5 h _ _ _ hPD hS (lv_sub hl [1, 2, 0, 3, 4, 5] rfl)
    · have h := (if_pos cc1).symm.trans h
      refine lv_goto (tgt := 174) hx hb dX10_laysSteps_91 (by decide) ?_
      refine lv_iinc (v := l5 + 1) (lv' := [(5, .int (l5 + 1)), (0, .ref h0), (1, .int p1), (2, .int l2), (3, .int l3), (4, .int l4)]) hx hb dX10_laysSteps_174 hl (k := 5) rfl rfl (by decide) rfl (fun ls hl => ?_)
      refine lv_goto (tgt := 69) hx hb dX10_laysSteps_177 (by decide) ?_
      exact hk69 A0 l2 l3 l4 (l5 + 1) h _ _ _ hPD hS (lv_sub hl [1, 2, 3, 4, 5, 0] rfl)
set_option maxRecDepth 100000 in
set_option maxHeartbeats 4000000 in
theorem ww_f10_laysSteps_l69  (C0 : Cx cX10_laysSteps 6 none RX10 p s m args meth c G DA) {h0 : Nat} {a0 : Nat → Nat} {f0 : Nat → Int32} {p1 : Int32}  {k53 : (Nat → Nat → Int32) → Int32 → Int32 → Option ((Nat → Nat → Int32))} {res : (Nat → Nat → Int32)} (hk53 : ∀ (A0 : Nat → Nat → Int32) (l2 : Int32) (l3 : Int32), k53 A0 l2 l3 = some res → ∀ (H : Heap) (locs : List Loc) (ls : Array Slot), WD G DA (wX10 G h0 a0 f0 A0) H → va_S DA s.heap H locs → lv_has ls 6 [(0, .ref h0), (1, .int p1), (2, .int l2), (3, .int l3)] → W p l e rmX10_laysSteps s m args below meth c H locs 0 0 (MQ below (QV G DA (wX10 G h0 a0 f0 res)) args s 0 0 DA) (F0 m 53 ls [])) : ∀ (n : Nat) (A0 : Nat → Nat → Int32) (l2 : Int32) (l3 : Int32) (l4 : Int32) (l5 : Int32), f10_laysSteps_l69 f0 p1 k53 n A0 l2 l3 l4 l5 = some res → ∀ (H : Heap) (locs : List Loc) (ls : Array Slot), WD G DA (wX10 G h0 a0 f0 A0) H → va_S DA s.heap H locs → lv_has ls 6 [(0, .ref h0), (1, .int p1), (2, .int l2), (3, .int l3), (4, .int l4), (5, .int l5)] → W p l e rmX10_laysSteps s m args below meth c H locs 0 0 (MQ below (QV G DA (wX10 G h0 a0 f0 res)) args s 0 0 DA) (F0 m 69 ls []) := by
  intro n
  induction n with
  | zero => intro A0 l2 l3 l4 l5 h; cases h
  | succ n ih => intro A0 l2 l3 l4 l5 h; exact ww_f10_laysSteps_b69 C0 hk53 ih A0 l2 l3 l4 l5 h
set_option maxRecDepth 100000 in
set_option maxHeartbeats 4000000 in
theorem ww_f10_laysSteps_b53  (C0 : Cx cX10_laysSteps 6 none RX10 p s m args meth c G DA) {h0 : Nat} {a0 : Nat → Nat} {f0 : Nat → Int32} {p1 : Int32}  {k53 : (Nat → Nat → Int32) → Int32 → Int32 → Option ((Nat → Nat → Int32))} {res : (Nat → Nat → Int32)}  (hk53 : ∀ (A0 : Nat → Nat → Int32) (l2 : Int32) (l3 : Int32), k53 A0 l2 l3 = some res → ∀ (H : Heap) (locs : List Loc) (ls : Array Slot), WD G DA (wX10 G h0 a0 f0 A0) H → va_S DA s.heap H locs → lv_has ls 6 [(0, .ref h0), (1, .int p1), (2, .int l2), (3, .int l3)] → W p l e rmX10_laysSteps s m args below meth c H locs 0 0 (MQ below (QV G DA (wX10 G h0 a0 f0 res)) args s 0 0 DA) (F0 m 53 ls [])) : ∀ (A0 : Nat → Nat → Int32) (l2 : Int32) (l3 : Int32), f10_laysSteps_b53 f0 p1  k53 A0 l2 l3 = some res → ∀ (H : Heap) (locs : List Loc) (ls : Array Slot), WD G DA (wX10 G h0 a0 f0 A0) H → va_S DA s.heap H locs → lv_has ls 6 [(0, .ref h0), (1, .int p1), (2, .int l2), (3, .int l3)] → W p l e rmX10_laysSteps s m args below meth c H locs 0 0 (MQ below (QV G DA (wX10 G h0 a0 f0 res)) args s 0 0 DA) (F0 m 53 ls []) := by
  obtain ⟨hx, hb, hml, hown, hts⟩ := C0.1
  have hK := C0.2.2.2.1
  intro A0 l2 l3 h _ _ _ hPD hS hl
  unfold f10_laysSteps_b53 at h
  refine lv_iload_n hx hb dX10_laysSteps_53 rfl (lv_at hl 3 rfl) ?_
  refine lv_iload_n hx hb dX10_laysSteps_54 rfl (lv_at hl 2 rfl) ?_
  refine lv_icmp_ge (tgt := 186) hx hb dX10_laysSteps_55 (by decide) (fun cc1 => ?_) (fun cc1 => ?_)
  · have h := (if_pos cc1).symm.trans h
    obtain rfl := Option.some.inj h
    exact eV C0 hPD.1 hPD.2 hS dX10_laysSteps_186
  · have h := (if_neg cc1).symm.trans h
    refine lv_aload_n hx hb dX10_laysSteps_58 rfl (lv_at hl 0 rfl) ?_
    refine va_get (D := G.1) (ci := 10) (v := .ref (a0 45)) (C := RX10) (T := TX10) (N := 52) hx hb hts inlX10 hown hK hPD.1 0 rfl rfl 45 (by decide) (hts _ gw_788) (fun _ h9 => h9) rfl dX10_laysSteps_59 ?_
    refine lv_iload_n hx hb dX10_laysSteps_62 rfl (lv_at hl 3 rfl) ?_
    obtain ⟨hi_6, h⟩ := ob h
    refine va_iald hx hb hK hPD.1 28 1 rfl rfl hi_6 dX10_laysSteps_63 ?_
    refine lv_istore (lv' := [(4, .int (gx (A0 45) l3)), (0, .ref h0), (1, .int p1), (2, .int l2), (3, .int l3)]) hx hb dX10_laysSteps_64 hl (by decide) rfl (fun ls hl => ?_)
    refine lv_iconst (v := 0) hx hb dX10_laysSteps_66 (by decide) ?_
    refine lv_istore (lv' := [(5, .int 0), (4, .int (gx (A0 45) l3)), (0, .ref h0), (1, .int p1), (2, .int l2), (3, .int l3)]) hx hb dX10_laysSteps_67 hl (by decide) rfl (fun ls hl => ?_)
    exact ww_f10_laysSteps_l69 C0 hk53 NF A0 l2 l3 (gx (A0 45) l3) 0 h _ _ _ hPD hS (lv_sub hl [2, 3, 4, 5, 1, 0] rfl)
set_option maxRecDepth 100000 in
set_option maxHeartbeats 4000000 in
theorem ww_f10_laysSteps_l53  (C0 : Cx cX10_laysSteps 6 none RX10 p s m args meth c G DA) {h0 : Nat} {a0 : Nat → Nat} {f0 : Nat → Int32} {p1 : Int32}   {res : (Nat → Nat → Int32)}  : ∀ (n : Nat) (A0 : Nat → Nat → Int32) (l2 : Int32) (l3 : Int32), f10_laysSteps_l53 f0 p1  n A0 l2 l3 = some res → ∀ (H : Heap) (locs : List Loc) (ls : Array Slot), WD G DA (wX10 G h0 a0 f0 A0) H → va_S DA s.heap H locs → lv_has ls 6 [(0, .ref h0), (1, .int p1), (2, .int l2), (3, .int l3)] → W p l e rmX10_laysSteps s m args below meth c H locs 0 0 (MQ below (QV G DA (wX10 G h0 a0 f0 res)) args s 0 0 DA) (F0 m 53 ls []) := by
  intro n
  induction n with
  | zero => intro A0 l2 l3 h; cases h
  | succ n ih => intro A0 l2 l3 h; exact ww_f10_laysSteps_b53 C0  ih A0 l2 l3 h
set_option maxRecDepth 100000 in
set_option maxHeartbeats 4000000 in
theorem ww_f10_laysSteps_b2  (C0 : Cx cX10_laysSteps 6 none RX10 p s m args meth c G DA) {h0 : Nat} {a0 : Nat → Nat} {f0 : Nat → Int32} {p1 : Int32}  {k2 : (Nat → Nat → Int32) → Int32 → Option ((Nat → Nat → Int32))} {res : (Nat → Nat → Int32)}  (hk2 : ∀ (A0 : Nat → Nat → Int32) (l2 : Int32), k2 A0 l2 = some res → ∀ (H : Heap) (locs : List Loc) (ls : Array Slot), WD G DA (wX10 G h0 a0 f0 A0) H → va_S DA s.heap H locs → lv_has ls 6 [(0, .ref h0), (1, .int p1), (2, .int l2)] → W p l e rmX10_laysSteps s m args below meth c H locs 0 0 (MQ below (QV G DA (wX10 G h0 a0 f0 res)) args s 0 0 DA) (F0 m 2 ls [])) : ∀ (A0 : Nat → Nat → Int32) (l2 : Int32), f10_laysSteps_b2 f0 p1  k2 A0 l2 = some res → ∀ (H : Heap) (locs : List Loc) (ls : Array Slot), WD G DA (wX10 G h0 a0 f0 A0) H → va_S DA s.heap H locs → lv_has ls 6 [(0, .ref h0), (1, .int p1), (2, .int l2)] → W p l e rmX10_laysSteps s m args below meth c H locs 0 0 (MQ below (QV G DA (wX10 G h0 a0 f0 res)) args s 0 0 DA) (F0 m 2 ls []) := by
  obtain ⟨hx, hb, hml, hown, hts⟩ := C0.1
  have hK := C0.2.2.2.1
  intro A0 l2 h _ _ _ hPD hS hl
  unfold f10_laysSteps_b2 at h
  refine lv_iload_n hx hb dX10_laysSteps_2 rfl (lv_at hl 2 rfl) ?_
  refine lv_bipush (v := 16) hx hb dX10_laysSteps_3 (by decide) ?_
  refine lv_icmp_ge (tgt := 28) hx hb dX10_laysSteps_5 (by decide) (fun cc1 => ?_) (fun cc1 => ?_)
  · have h := (if_pos cc1).symm.trans h
    refine lv_aload_n hx hb dX10_laysSteps_28 rfl (lv_at hl 0 rfl) ?_
    refine va_get (D := G.1) (ci := 10) (v := .ref (a0 46)) (C := RX10) (T := TX10) (N := 52) hx hb hts inlX10 hown hK hPD.1 0 rfl rfl 46 (by decide) (hts _ gw_786) (fun _ h9 => h9) rfl dX10_laysSteps_29 ?_
    refine lv_iload_n hx hb dX10_laysSteps_32 rfl (lv_at hl 1 rfl) ?_
    refine lv_iconst (v := 0) hx hb dX10_laysSteps_33 (by decide) ?_
    obtain ⟨hi_1, h⟩ := ob h
    refine va_iast hx hb hK hPD.1 hPD.2 hS 29 1 rfl rfl hi_1 dX10_laysSteps_34 (fun H locs hP hD hS => ?_)
    obtain ⟨A0_2, eA0_2, h⟩ := lvl h
    have hPD : WD G DA (wX10 G h0 a0 f0 A0_2) H := by rw [eA0_2]; exact ⟨hP, hD⟩
    clear eA0_2 hP hD
    refine lv_aload_n hx hb dX10_laysSteps_35 rfl (lv_at hl 0 rfl) ?_
    refine va_get (D := G.1) (ci := 10) (v := .ref (a0 47)) (C := RX10) (T := TX10) (N := 52) hx hb hts inlX10 hown hK hPD.1 0 rfl rfl 47 (by decide) (hts _ gw_787) (fun _ h9 => h9) rfl dX10_laysSteps_36 ?_
    refine lv_iload_n hx hb dX10_laysSteps_39 rfl (lv_at hl 1 rfl) ?_
    refine lv_iconst (v := 1) hx hb dX10_laysSteps_40 (by decide) ?_
    obtain ⟨hi_3, h⟩ := ob h
    refine va_iast hx hb hK hPD.1 hPD.2 hS 30 1 rfl rfl hi_3 dX10_laysSteps_41 (fun H locs hP hD hS => ?_)
    obtain ⟨A0_4, eA0_4, h⟩ := lvl h
    have hPD : WD G DA (wX10 G h0 a0 f0 A0_4) H := by rw [eA0_4]; exact ⟨hP, hD⟩
    clear eA0_4 hP hD
    refine lv_aload_n hx hb dX10_laysSteps_42 rfl (lv_at hl 0 rfl) ?_
    refine va_get (D := G.1) (ci := 10) (v := .ref (a0 45)) (C := RX10) (T := TX10) (N := 52) hx hb hts inlX10 hown hK hPD.1 0 rfl rfl 45 (by decide) (hts _ gw_788) (fun _ h9 => h9) rfl dX10_laysSteps_43 ?_
    refine lv_iconst (v := 0) hx hb dX10_laysSteps_46 (by decide) ?_
    refine lv_iload_n hx hb dX10_laysSteps_47 rfl (lv_at hl 1 rfl) ?_
    refine va_iast hx hb hK hPD.1 hPD.2 hS 28 1 rfl rfl (vin rfl) dX10_laysSteps_48 (fun H locs hP hD hS => ?_)
    obtain ⟨A0_5, eA0_5, h⟩ := lvl h
    have hPD : WD G DA (wX10 G h0 a0 f0 A0_5) H := by rw [eA0_5]; exact ⟨hP, hD⟩
    clear eA0_5 hP hD
    refine lv_iconst (v := 1) hx hb dX10_laysSteps_49 (by decide) ?_
    refine lv_istore_n (lv' := [(2, .int 1), (0, .ref h0), (1, .int p1)]) hx hb dX10_laysSteps_50 rfl hl (by decide) rfl (fun ls hl => ?_)
    refine lv_iconst (v := 0) hx hb dX10_laysSteps_51 (by decide) ?_
    refine lv_istore_n (lv' := [(3, .int 0), (2, .int 1), (0, .ref h0), (1, .int p1)]) hx hb dX10_laysSteps_52 rfl hl (by decide) rfl (fun ls hl => ?_)
    exact ww_f10_laysSteps_l53 C0 NF A0_5 1 0 h _ _ _ hPD hS (lv_sub hl [2, 3, 1, 0] rfl)
  · have h := (if_neg cc1).symm.trans h
    refine lv_aload_n hx hb dX10_laysSteps_8 rfl (lv_at hl 0 rfl) ?_
    refine va_get (D := G.1) (ci := 10) (v := .ref (a0 46)) (C := RX10) (T := TX10) (N := 52) hx hb hts inlX10 hown hK hPD.1 0 rfl rfl 46 (by decide) (hts _ gw_786) (fun _ h9 => h9) rfl dX10_laysSteps_9 ?_
    refine lv_iload_n hx hb dX10_laysSteps_12 rfl (lv_at hl 2 rfl) ?_
    refine lv_iconst (v := (-1)) hx hb dX10_laysSteps_13 (by decide) ?_
    obtain ⟨hi_20, h⟩ := ob h
    refine va_iast hx hb hK hPD.1 hPD.2 hS 29 1 rfl rfl hi_20 dX10_laysSteps_14 (fun H locs hP hD hS => ?_)
    obtain ⟨A0_21, eA0_21, h⟩ := lvl h
    have hPD : WD G DA (wX10 G h0 a0 f0 A0_21) H := by rw [eA0_21]; exact ⟨hP, hD⟩
    clear eA0_21 hP hD
    refine lv_aload_n hx hb dX10_laysSteps_15 rfl (lv_at hl 0 rfl) ?_
    refine va_get (D := G.1) (ci := 10) (v := .ref (a0 47)) (C := RX10) (T := TX10) (N := 52) hx hb hts inlX10 hown hK hPD.1 0 rfl rfl 47 (by decide) (hts _ gw_787) (fun _ h9 => h9) rfl dX10_laysSteps_16 ?_
    refine lv_iload_n hx hb dX10_laysSteps_19 rfl (lv_at hl 2 rfl) ?_
    refine lv_iconst (v := 0) hx hb dX10_laysSteps_20 (by decide) ?_
    obtain ⟨hi_22, h⟩ := ob h
    refine va_iast hx hb hK hPD.1 hPD.2 hS 30 1 rfl rfl hi_22 dX10_laysSteps_21 (fun H locs hP hD hS => ?_)
    obtain ⟨A0_23, eA0_23, h⟩ := lvl h
    have hPD : WD G DA (wX10 G h0 a0 f0 A0_23) H := by rw [eA0_23]; exact ⟨hP, hD⟩
    clear eA0_23 hP hD
    refine lv_iinc (v := l2 + 1) (lv' := [(2, .int (l2 + 1)), (0, .ref h0), (1, .int p1)]) hx hb dX10_laysSteps_22 hl (k := 2) rfl rfl (by decide) rfl (fun ls hl => ?_)
    refine lv_goto (tgt := 2) hx hb dX10_laysSteps_25 (by decide) ?_
    exact hk2 A0_23 (l2 + 1) h _ _ _ hPD hS (lv_sub hl [1, 2, 0] rfl)
set_option maxRecDepth 100000 in
set_option maxHeartbeats 4000000 in
theorem ww_f10_laysSteps_l2  (C0 : Cx cX10_laysSteps 6 none RX10 p s m args meth c G DA) {h0 : Nat} {a0 : Nat → Nat} {f0 : Nat → Int32} {p1 : Int32}   {res : (Nat → Nat → Int32)}  : ∀ (n : Nat) (A0 : Nat → Nat → Int32) (l2 : Int32), f10_laysSteps_l2 f0 p1  n A0 l2 = some res → ∀ (H : Heap) (locs : List Loc) (ls : Array Slot), WD G DA (wX10 G h0 a0 f0 A0) H → va_S DA s.heap H locs → lv_has ls 6 [(0, .ref h0), (1, .int p1), (2, .int l2)] → W p l e rmX10_laysSteps s m args below meth c H locs 0 0 (MQ below (QV G DA (wX10 G h0 a0 f0 res)) args s 0 0 DA) (F0 m 2 ls []) := by
  intro n
  induction n with
  | zero => intro A0 l2 h; cases h
  | succ n ih => intro A0 l2 h; exact ww_f10_laysSteps_b2 C0  ih A0 l2 h
set_option maxRecDepth 100000 in
set_option maxHeartbeats 4000000 in
theorem kt_X10_laysSteps (l : Launch) (G : Gp) (h0 : Nat) (a0 : Nat → Nat) (f0 : Nat → Int32) (A0 : Nat → Nat → Int32) (p1 : Int32) : ∀ {r : (Nat → Nat → Int32)}, f10_laysSteps f0 A0 p1 = some r → CtrV l yX10_laysSteps cX10_laysSteps 6 none rmX10_laysSteps G [.ref h0, .int p1] (wX10 G h0 a0 f0 A0) (wX10 G h0 a0 f0 r) := by
  intro res h
  refine ctrV_of (cc := cX10_laysSteps) (maxL := 6) (ret := none) (by decide +kernel) rfl (Nat.le_of_ble_eq_true rfl) (fun p e s m below meth c DA C0 hP hD ls hl => ?_)
  have hPD : WD G DA (wX10 G h0 a0 f0 A0) s.heap := ⟨hP, hD⟩
  have hS : va_S DA s.heap s.heap [] := va_S.rf
  have hl : lv_has ls 6 [(0, .ref h0), (1, .int p1)] := hl
  obtain ⟨hx, hb, hml, hown, hts⟩ := C0.1
  have hK := C0.2.2.2.1
  unfold f10_laysSteps at h
  refine lv_iconst (v := 0) hx hb dX10_laysSteps_0 (by decide) ?_
  refine lv_istore_n (lv' := [(2, .int 0), (0, .ref h0), (1, .int p1)]) hx hb dX10_laysSteps_1 rfl hl (by decide) rfl (fun ls hl => ?_)
  exact ww_f10_laysSteps_l2 C0 NF A0 0 h _ _ _ hPD hS (lv_sub hl [1, 2, 0] rfl)
abbrev rmX10_isBridge : Room := { frames := 2, cells := 0, slots := 0, locals := 46 }
set_option maxRecDepth 100000 in
set_option maxHeartbeats 4000000 in
theorem kt_X10_isBridge (l : Launch) (G : Gp) (h0 : Nat) (a0 : Nat → Nat) (f0 : Nat → Int32) (A0 : Nat → Nat → Int32) (p1 : Int32) (p2 : Int32) : ∀ {r : Int32 × (Nat → Nat → Int32)}, f10_isBridge f0 A0 p1 p2 = some r → CtrI l yX10_isBridge cX10_isBridge 3 (some .boolean) rmX10_isBridge G [.ref h0, .int p1, .int p2] (wX10 G h0 a0 f0 A0) r.1 (wX10 G h0 a0 f0 r.2) := by
  intro res h
  refine ctrI_of (cc := cX10_isBridge) (maxL := 3) (ret := (some .boolean)) (by decide +kernel) rfl (Nat.le_of_ble_eq_true rfl) (fun p e s m below meth c DA C0 hP hD ls hl => ?_)
  have hPD : WD G DA (wX10 G h0 a0 f0 A0) s.heap := ⟨hP, hD⟩
  have hS : va_S DA s.heap s.heap [] := va_S.rf
  have hl : lv_has ls 3 [(0, .ref h0), (1, .int p1), (2, .int p2)] := hl
  obtain ⟨hx, hb, hml, hown, hts⟩ := C0.1
  have hK := C0.2.2.2.1
  unfold f10_isBridge at h
  refine lv_aload_n hx hb dX10_isBridge_0 rfl (lv_at hl 0 rfl) ?_
  refine va_get (D := G.1) (ci := 10) (v := .ref (a0 3)) (C := RX10) (T := TX10) (N := 52) hx hb hts inlX10 hown hK hPD.1 0 rfl rfl 3 (by decide) (hts _ gw_666) (fun _ h9 => h9) rfl dX10_isBridge_1 ?_
  refine lv_iload_n hx hb dX10_isBridge_4 rfl (lv_at hl 1 rfl) ?_
  refine lv_aload_n hx hb dX10_isBridge_5 rfl (lv_at hl 0 rfl) ?_
  refine va_get (D := G.1) (ci := 10) (v := .ref (a0 3)) (C := RX10) (T := TX10) (N := 52) hx hb hts inlX10 hown hK hPD.1 0 rfl rfl 3 (by decide) (hts _ gw_666) (fun _ h9 => h9) rfl dX10_isBridge_6 ?_
  refine lv_iload_n hx hb dX10_isBridge_9 rfl (lv_at hl 1 rfl) ?_
  obtain ⟨hi_1, h⟩ := ob h
  refine va_iald hx hb hK hPD.1 4 1 rfl rfl hi_1 dX10_isBridge_10 ?_
  refine lv_iconst (v := 1) hx hb dX10_isBridge_11 (by decide) ?_
  refine lv_iload_n hx hb dX10_isBridge_12 rfl (lv_at hl 2 rfl) ?_
  refine lv_ishl hx hb dX10_isBridge_13 ?_
  refine lv_iconst (v := (-1)) hx hb dX10_isBridge_14 (by decide) ?_
  refine lv_ixor hx hb dX10_isBridge_15 ?_
  refine lv_iand hx hb dX10_isBridge_16 ?_
  obtain ⟨hi_2, h⟩ := ob h
  refine va_iast hx hb hK hPD.1 hPD.2 hS 4 1 rfl rfl hi_2 dX10_isBridge_17 (fun H locs hP hD hS => ?_)
  obtain ⟨A0_3, eA0_3, h⟩ := lvl h
  have hPD : WD G DA (wX10 G h0 a0 f0 A0_3) H := by rw [eA0_3]; exact ⟨hP, hD⟩
  clear eA0_3 hP hD
  refine lv_aload_n hx hb dX10_isBridge_18 rfl (lv_at hl 0 rfl) ?_
  refine va_get (D := G.1) (ci := 10) (v := .ref (a0 3)) (C := RX10) (T := TX10) (N := 52) hx hb hts inlX10 hown hK hPD.1 0 rfl rfl 3 (by decide) (hts _ gw_666) (fun _ h9 => h9) rfl dX10_isBridge_19 ?_
  refine lv_iload_n hx hb dX10_isBridge_22 rfl (lv_at hl 2 rfl) ?_
  refine lv_aload_n hx hb dX10_isBridge_23 rfl (lv_at hl 0 rfl) ?_
  refine va_get (D := G.1) (ci := 10) (v := .ref (a0 3)) (C := RX10) (T := TX10) (N := 52) hx hb hts inlX10 hown hK hPD.1 0 rfl rfl 3 (by decide) (hts _ gw_666) (fun _ h9 => h9) rfl dX10_isBridge_24 ?_
  refine lv_iload_n hx hb dX10_isBridge_27 rfl (lv_at hl 2 rfl) ?_
  obtain ⟨hi_4, h⟩ := ob h
  refine va_iald hx hb hK hPD.1 4 1 rfl rfl hi_4 dX10_isBridge_28 ?_
  refine lv_iconst (v := 1) hx hb dX10_isBridge_29 (by decide) ?_
  refine lv_iload_n hx hb dX10_isBridge_30 rfl (lv_at hl 1 rfl) ?_
  refine lv_ishl hx hb dX10_isBridge_31 ?_
  refine lv_iconst (v := (-1)) hx hb dX10_isBridge_32 (by decide) ?_
  refine lv_ixor hx hb dX10_isBridge_33 ?_
  refine lv_iand hx hb dX10_isBridge_34 ?_
  obtain ⟨hi_5, h⟩ := ob h
  refine va_iast hx hb hK hPD.1 hPD.2 hS 4 1 rfl rfl hi_5 dX10_isBridge_35 (fun H locs hP hD hS => ?_)
  obtain ⟨A0_6, eA0_6, h⟩ := lvl h
  have hPD : WD G DA (wX10 G h0 a0 f0 A0_6) H := by rw [eA0_6]; exact ⟨hP, hD⟩
  clear eA0_6 hP hD
  refine lv_aload_n hx hb dX10_isBridge_36 rfl (lv_at hl 0 rfl) ?_
  refine lv_iload_n hx hb dX10_isBridge_37 rfl (lv_at hl 1 rfl) ?_
  obtain ⟨q_7, hq_7, h⟩ := ob2 h
  refine kVV (As := [.int p1]) (rest := []) C0 (kt_X10_laysSteps l G h0 a0 f0 A0_6 p1 hq_7) gi_V_X10_344_X10_laysSteps (n := 1) rfl (by decide +kernel) rfl ⟨rfl, rfl, Nat.le_of_ble_eq_true rfl, Nat.le_of_ble_eq_true rfl⟩ hPD hS 0 10 rfl rfl rfl [0, 1, 2, 3, 4, 5, 6, 7, 8, 9, 10, 11, 12, 13, 14, 15, 16, 17, 18, 19, 20, 21, 22, 23, 24, 25, 26, 27, 28, 29, 30, 31, 32, 33] [] [0, 1, 2, 3, 4, 5, 6, 7, 8, 9, 10, 11, 12, 13, 14, 15, 16, 17, 18, 19, 20, 21, 22, 23, 24, 25, 26, 27, 28, 29, 30, 31, 32, 33] (wN := (wX10 G h0 a0 f0 q_7)) rfl rfl rfl rfl rfl hl.1 (Nat.le_of_ble_eq_true rfl) dX10_isBridge_38 (fun H locs hPD hS => ?_)
  refine lv_aload_n hx hb dX10_isBridge_41 rfl (lv_at hl 0 rfl) ?_
  refine va_get (D := G.1) (ci := 10) (v := .ref (a0 3)) (C := RX10) (T := TX10) (N := 52) hx hb hts inlX10 hown hK hPD.1 0 rfl rfl 3 (by decide) (hts _ gw_666) (fun _ h9 => h9) rfl dX10_isBridge_42 ?_
  refine lv_iload_n hx hb dX10_isBridge_45 rfl (lv_at hl 1 rfl) ?_
  refine lv_aload_n hx hb dX10_isBridge_46 rfl (lv_at hl 0 rfl) ?_
  refine va_get (D := G.1) (ci := 10) (v := .ref (a0 3)) (C := RX10) (T := TX10) (N := 52) hx hb hts inlX10 hown hK hPD.1 0 rfl rfl 3 (by decide) (hts _ gw_666) (fun _ h9 => h9) rfl dX10_isBridge_47 ?_
  refine lv_iload_n hx hb dX10_isBridge_50 rfl (lv_at hl 1 rfl) ?_
  obtain ⟨hi_8, h⟩ := ob h
  refine va_iald hx hb hK hPD.1 4 1 rfl rfl hi_8 dX10_isBridge_51 ?_
  refine lv_iconst (v := 1) hx hb dX10_isBridge_52 (by decide) ?_
  refine lv_iload_n hx hb dX10_isBridge_53 rfl (lv_at hl 2 rfl) ?_
  refine lv_ishl hx hb dX10_isBridge_54 ?_
  refine lv_ior hx hb dX10_isBridge_55 ?_
  obtain ⟨hi_9, h⟩ := ob h
  refine va_iast hx hb hK hPD.1 hPD.2 hS 4 1 rfl rfl hi_9 dX10_isBridge_56 (fun H locs hP hD hS => ?_)
  obtain ⟨A0_10, eA0_10, h⟩ := lvl h
  have hPD : WD G DA (wX10 G h0 a0 f0 A0_10) H := by rw [eA0_10]; exact ⟨hP, hD⟩
  clear eA0_10 hP hD
  refine lv_aload_n hx hb dX10_isBridge_57 rfl (lv_at hl 0 rfl) ?_
  refine va_get (D := G.1) (ci := 10) (v := .ref (a0 3)) (C := RX10) (T := TX10) (N := 52) hx hb hts inlX10 hown hK hPD.1 0 rfl rfl 3 (by decide) (hts _ gw_666) (fun _ h9 => h9) rfl dX10_isBridge_58 ?_
  refine lv_iload_n hx hb dX10_isBridge_61 rfl (lv_at hl 2 rfl) ?_
  refine lv_aload_n hx hb dX10_isBridge_62 rfl (lv_at hl 0 rfl) ?_
  refine va_get (D := G.1) (ci := 10) (v := .ref (a0 3)) (C := RX10) (T := TX10) (N := 52) hx hb hts inlX10 hown hK hPD.1 0 rfl rfl 3 (by decide) (hts _ gw_666) (fun _ h9 => h9) rfl dX10_isBridge_63 ?_
  refine lv_iload_n hx hb dX10_isBridge_66 rfl (lv_at hl 2 rfl) ?_
  obtain ⟨hi_11, h⟩ := ob h
  refine va_iald hx hb hK hPD.1 4 1 rfl rfl hi_11 dX10_isBridge_67 ?_
  refine lv_iconst (v := 1) hx hb dX10_isBridge_68 (by decide) ?_
  refine lv_iload_n hx hb dX10_isBridge_69 rfl (lv_at hl 1 rfl) ?_
  refine lv_ishl hx hb dX10_isBridge_70 ?_
  refine lv_ior hx hb dX10_isBridge_71 ?_
  obtain ⟨hi_12, h⟩ := ob h
  refine va_iast hx hb hK hPD.1 hPD.2 hS 4 1 rfl rfl hi_12 dX10_isBridge_72 (fun H locs hP hD hS => ?_)
  obtain ⟨A0_13, eA0_13, h⟩ := lvl h
  have hPD : WD G DA (wX10 G h0 a0 f0 A0_13) H := by rw [eA0_13]; exact ⟨hP, hD⟩
  clear eA0_13 hP hD
  refine lv_aload_n hx hb dX10_isBridge_73 rfl (lv_at hl 0 rfl) ?_
  refine va_get (D := G.1) (ci := 10) (v := .ref (a0 46)) (C := RX10) (T := TX10) (N := 52) hx hb hts inlX10 hown hK hPD.1 0 rfl rfl 46 (by decide) (hts _ gw_786) (fun _ h9 => h9) rfl dX10_isBridge_74 ?_
  refine lv_iload_n hx hb dX10_isBridge_77 rfl (lv_at hl 2 rfl) ?_
  obtain ⟨hi_14, h⟩ := ob h
  refine va_iald hx hb hK hPD.1 29 1 rfl rfl hi_14 dX10_isBridge_78 ?_
  refine lv_iconst (v := (-1)) hx hb dX10_isBridge_79 (by decide) ?_
  refine lv_icmp_ne (tgt := 87) hx hb dX10_isBridge_80 (by decide) (fun cc1 => ?_) (fun cc1 => ?_)
  · have h := (if_neg cc1).symm.trans h
    refine lv_iconst (v := 0) hx hb dX10_isBridge_87 (by decide) ?_
    obtain rfl := Option.some.inj h
    exact eZ C0 hPD.1 hPD.2 hS rfl rfl dX10_isBridge_88
  · have h := (if_pos cc1).symm.trans h
    refine lv_iconst (v := 1) hx hb dX10_isBridge_83 (by decide) ?_
    refine lv_goto (tgt := 88) hx hb dX10_isBridge_84 (by decide) ?_
    obtain rfl := Option.some.inj h
    exact eZ C0 hPD.1 hPD.2 hS rfl rfl dX10_isBridge_88
abbrev rmX10_lanes : Room := { frames := 3, cells := 0, slots := 0, locals := 68 }
set_option maxRecDepth 100000 in
set_option maxHeartbeats 4000000 in
theorem ww_f10_lanes_b36  (C0 : Cx cX10_lanes 8 (some .int) RX10 p s m args meth c G DA) {h0 : Nat} {a0 : Nat → Nat} {f0 : Nat → Int32} {p1 : Int32}  {k27 : (Nat → Nat → Int32) → Int32 → Int32 → Int32 → Int32 → Int32 → Option (Int32 × (Nat → Nat → Int32))} {k36 : (Nat → Nat → Int32) → Int32 → Int32 → Int32 → Int32 → Int32 → Int32 → Option (Int32 × (Nat → Nat → Int32))} {res : Int32 × (Nat → Nat → Int32)} (hk27 : ∀ (A0 : Nat → Nat → Int32) (l2 : Int32) (l3 : Int32) (l4 : Int32) (l5 : Int32) (l6 : Int32), k27 A0 l2 l3 l4 l5 l6 = some res → ∀ (H : Heap) (locs : List Loc) (ls : Array Slot), WD G DA (wX10 G h0 a0 f0 A0) H → va_S DA s.heap H locs → lv_has ls 8 [(0, .ref h0), (1, .int p1), (2, .int l2), (3, .int l3), (4, .int l4), (5, .int l5), (6, .int l6)] → W p l e rmX10_lanes s m args below meth c H locs 0 0 (MQ below (QI G DA res.1 (wX10 G h0 a0 f0 res.2)) args s 0 0 DA) (F0 m 27 ls [])) (hk36 : ∀ (A0 : Nat → Nat → Int32) (l2 : Int32) (l3 : Int32) (l4 : Int32) (l5 : Int32) (l6 : Int32) (l7 : Int32), k36 A0 l2 l3 l4 l5 l6 l7 = some res → ∀ (H : Heap) (locs : List Loc) (ls : Array Slot), WD G DA (wX10 G h0 a0 f0 A0) H → va_S DA s.heap H locs → lv_has ls 8 [(0, .ref h0), (1, .int p1), (2, .int l2), (3, .int l3), (4, .int l4), (5, .int l5), (6, .int l6), (7, .int l7)] → W p l e rmX10_lanes s m args below meth c H locs 0 0 (MQ below (QI G DA res.1 (wX10 G h0 a0 f0 res.2)) args s 0 0 DA) (F0 m 36 ls [])) : ∀ (A0 : Nat → Nat → Int32) (l2 : Int32) (l3 : Int32) (l4 : Int32) (l5 : Int32) (l6 : Int32) (l7 : Int32), f10_lanes_b36 f0 p1 k27 k36 A0 l2 l3 l4 l5 l6 l7 = some res → ∀ (H : Heap) (locs : List Loc) (ls : Array Slot), WD G DA (wX10 G h0 a0 f0 A0) H → va_S DA s.heap H locs → lv_has ls 8 [(0, .ref h0), (1, .int p1), (2, .int l2), (3, .int l3), (4, .int l4), (5, .int l5), (6, .int l6), (7, .int l7)] → W p l e rmX10_lanes s m args below meth c H locs 0 0 (MQ below (QI G DA res.1 (wX10 G h0 a0 f0 res.2)) args s 0 0 DA) (F0 m 36 ls []) := by
  obtain ⟨hx, hb, hml, hown, hts⟩ := C0.1
  have hK := C0.2.2.2.1
  intro A0 l2 l3 l4 l5 l6 l7 h _ _ _ hPD hS hl
  unfold f10_lanes_b36 at h
  refine lv_iload hx hb dX10_lanes_36 (lv_at hl 7 rfl) ?_
  refine lv_iload hx hb dX10_lanes_38 (lv_at hl 6 rfl) ?_
  refine lv_icmp_le (tgt := 97) hx hb dX10_lanes_40 (by decide) (fun cc1 => ?_) (fun cc1 => ?_)
  · have h := (if_pos cc1).symm.trans h
    refine lv_iinc (v := l6 + (-1)) (lv' := [(6, .int (l6 + (-1))), (0, .ref h0), (1, .int p1), (2, .int l2), (3, .int l3), (4, .int l4), (5, .int l5), (7, .int l7)]) hx hb dX10_lanes_97 hl (k := 6) rfl rfl (by decide) rfl (fun ls hl => ?_)
    refine lv_goto (tgt := 27) hx hb dX10_lanes_100 (by decide) ?_
    exact hk27 A0 l2 l3 l4 l5 (l6 + (-1)) h _ _ _ hPD hS (lv_sub hl [1, 2, 3, 4, 5, 6, 0] rfl)
  · have h := (if_neg cc1).symm.trans h
    refine lv_aload_n hx hb dX10_lanes_43 rfl (lv_at hl 0 rfl) ?_
    refine va_get (D := G.1) (ci := 10) (v := .ref (a0 3)) (C := RX10) (T := TX10) (N := 52) hx hb hts inlX10 hown hK hPD.1 0 rfl rfl 3 (by decide) (hts _ gw_666) (fun _ h9 => h9) rfl dX10_lanes_44 ?_
    refine lv_iload hx hb dX10_lanes_47 (lv_at hl 6 rfl) ?_
    obtain ⟨hi_1, h⟩ := ob h
    refine va_iald hx hb hK hPD.1 4 1 rfl rfl hi_1 dX10_lanes_49 ?_
    refine lv_iload hx hb dX10_lanes_50 (lv_at hl 7 rfl) ?_
    refine kSI (As := [.int (gx (A0 3) l6), .int l7]) (rest := []) C0 (kt_X10_has l G  (gx (A0 3) l6) l7) gi_S_X10_120_X10_has (n := 2) rfl (by decide +kernel) ⟨rfl, rfl, Nat.le_of_ble_eq_true rfl, Nat.le_of_ble_eq_true rfl⟩ hPD hS [] [0, 1, 2, 3, 4, 5, 6, 7, 8, 9, 10, 11, 12, 13, 14, 15, 16, 17, 18, 19, 20, 21, 22, 23, 24, 25, 26, 27, 28, 29, 30, 31, 32, 33] [0, 1, 2, 3, 4, 5, 6, 7, 8, 9, 10, 11, 12, 13, 14, 15, 16, 17, 18, 19, 20, 21, 22, 23, 24, 25, 26, 27, 28, 29, 30, 31, 32, 33] (wN := (wX10 G h0 a0 f0 A0)) rfl rfl rfl rfl rfl hl.1 (Nat.le_of_ble_eq_true rfl) dX10_lanes_52 (fun H locs hPD hS => ?_)
    refine lv_if_ne (tgt := 61) hx hb dX10_lanes_55 (by decide) (fun cc1 => ?_) (fun cc1 => ?_)
    · have h := (if_neg cc1).symm.trans h
      refine lv_iload_n hx hb dX10_lanes_61 rfl (lv_at hl 2 rfl) ?_
      refine lv_iconst (v := 1) hx hb dX10_lanes_62 (by decide) ?_
      refine lv_iadd hx hb dX10_lanes_63 ?_
      refine lv_istore_n (lv' := [(2, .int (l2 + 1)), (0, .ref h0), (1, .int p1), (3, .int l3), (4, .int l4), (5, .int l5), (6, .int l6), (7, .int l7)]) hx hb dX10_lanes_64 rfl hl (by decide) rfl (fun ls hl => ?_)
      refine lv_aload_n hx hb dX10_lanes_65 rfl (lv_at hl 1 rfl) ?_
      refine lv_iload hx hb dX10_lanes_66 (lv_at hl 6 rfl) ?_
      refine lv_iload hx hb dX10_lanes_68 (lv_at hl 7 rfl) ?_
      obtain ⟨q_2, hq_2, h⟩ := ob2 h
      refine kVI (As := [.int l6, .int l7]) (rest := []) C0 (kt_X10_isBridge l G h0 a0 f0 A0 l6 l7 hq_2) gi_V_X10_347_X10_isBridge (n := 2) rfl (by decide +kernel) rfl ⟨rfl, rfl, Nat.le_of_ble_eq_true rfl, Nat.le_of_ble_eq_true rfl⟩ hPD hS 0 10 rfl rfl rfl [0, 1, 2, 3, 4, 5, 6, 7, 8, 9, 10, 11, 12, 13, 14, 15, 16, 17, 18, 19, 20, 21, 22, 23, 24, 25, 26, 27, 28, 29, 30, 31, 32, 33] [] [0, 1, 2, 3, 4, 5, 6, 7, 8, 9, 10, 11, 12, 13, 14, 15, 16, 17, 18, 19, 20, 21, 22, 23, 24, 25, 26, 27, 28, 29, 30, 31, 32, 33] (wN := (wX10 G h0 a0 f0 q_2.2)) rfl rfl rfl rfl rfl hl.1 (Nat.le_of_ble_eq_true rfl) dX10_lanes_70 (fun H locs hPD hS => ?_)
      refine lv_if_ne (tgt := 79) hx hb dX10_lanes_73 (by decide) (fun cc1 => ?_) (fun cc1 => ?_)
      · have h := (if_neg cc1).symm.trans h
        refine lv_iload_n hx hb dX10_lanes_79 rfl (lv_at hl 3 rfl) ?_
        refine lv_iconst (v := 1) hx hb dX10_lanes_80 (by decide) ?_
        refine lv_iadd hx hb dX10_lanes_81 ?_
        refine lv_istore_n (lv' := [(3, .int (l3 + 1)), (2, .int (l2 + 1)), (0, .ref h0), (1, .int p1), (4, .int l4), (5, .int l5), (6, .int l6), (7, .int l7)]) hx hb dX10_lanes_82 rfl hl (by decide) rfl (fun ls hl => ?_)
        refine lv_iload hx hb dX10_lanes_83 (lv_at hl 6 rfl) ?_
        refine lv_istore (lv' := [(4, .int l6), (3, .int (l3 + 1)), (2, .int (l2 + 1)), (0, .ref h0), (1, .int p1), (5, .int l5), (6, .int l6), (7, .int l7)]) hx hb dX10_lanes_85 hl (by decide) rfl (fun ls hl => ?_)
        refine lv_iload hx hb dX10_lanes_87 (lv_at hl 7 rfl) ?_
        refine lv_istore (lv' := [(5, .int l7), (4, .int l6), (3, .int (l3 + 1)), (2, .int (l2 + 1)), (0, .ref h0), (1, .int p1), (6, .int l6), (7, .int l7)]) hx hb dX10_lanes_89 hl (by decide) rfl (fun ls hl => ?_)
        refine lv_iinc (v := l7 + (-1)) (lv' := [(7, .int (l7 + (-1))), (5, .int l7), (4, .int l6), (3, .int (l3 + 1)), (2, .int (l2 + 1)), (0, .ref h0), (1, .int p1), (6, .int l6)]) hx hb dX10_lanes_91 hl (k := 7) rfl rfl (by decide) rfl (fun ls hl => ?_)
        refine lv_goto (tgt := 36) hx hb dX10_lanes_94 (by decide) ?_
        exact hk36 q_2.2 (l2 + 1) (l3 + 1) l6 l7 l6 (l7 + (-1)) h _ _ _ hPD hS (lv_sub hl [5, 6, 4, 3, 2, 1, 7, 0] rfl)
      · have h := (if_pos cc1).symm.trans h
        refine lv_goto (tgt := 91) hx hb dX10_lanes_76 (by decide) ?_
        refine lv_iinc (v := l7 + (-1)) (lv' := [(7, .int (l7 + (-1))), (2, .int (l2 + 1)), (0, .ref h0), (1, .int p1), (3, .int l3), (4, .int l4), (5, .int l5), (6, .int l6)]) hx hb dX10_lanes_91 hl (k := 7) rfl rfl (by decide) rfl (fun ls hl => ?_)
        refine lv_goto (tgt := 36) hx hb dX10_lanes_94 (by decide) ?_
        exact hk36 q_2.2 (l2 + 1) l3 l4 l5 l6 (l7 + (-1)) h _ _ _ hPD hS (lv_sub hl [2, 3, 1, 4, 5, 6, 7, 0] rfl)
    · have h := (if_pos cc1).symm.trans h
      refine lv_goto (tgt := 91) hx hb dX10_lanes_58 (by decide) ?_
      refine lv_iinc (v := l7 + (-1)) (lv' := [(7, .int (l7 + (-1))), (0, .ref h0), (1, .int p1), (2, .int l2), (3, .int l3), (4, .int l4), (5, .int l5), (6, .int l6)]) hx hb dX10_lanes_91 hl (k := 7) rfl rfl (by decide) rfl (fun ls hl => ?_)
      refine lv_goto (tgt := 36) hx hb dX10_lanes_94 (by decide) ?_
      exact hk36 A0 l2 l3 l4 l5 l6 (l7 + (-1)) h _ _ _ hPD hS (lv_sub hl [1, 2, 3, 4, 5, 6, 7, 0] rfl)
set_option maxRecDepth 100000 in
set_option maxHeartbeats 4000000 in
theorem ww_f10_lanes_l36  (C0 : Cx cX10_lanes 8 (some .int) RX10 p s m args meth c G DA) {h0 : Nat} {a0 : Nat → Nat} {f0 : Nat → Int32} {p1 : Int32}  {k27 : (Nat → Nat → Int32) → Int32 → Int32 → Int32 → Int32 → Int32 → Option (Int32 × (Nat → Nat → Int32))} {res : Int32 × (Nat → Nat → Int32)} (hk27 : ∀ (A0 : Nat → Nat → Int32) (l2 : Int32) (l3 : Int32) (l4 : Int32) (l5 : Int32) (l6 : Int32), k27 A0 l2 l3 l4 l5 l6 = some res → ∀ (H : Heap) (locs : List Loc) (ls : Array Slot), WD G DA (wX10 G h0 a0 f0 A0) H → va_S DA s.heap H locs → lv_has ls 8 [(0, .ref h0), (1, .int p1), (2, .int l2), (3, .int l3), (4, .int l4), (5, .int l5), (6, .int l6)] → W p l e rmX10_lanes s m args below meth c H locs 0 0 (MQ below (QI G DA res.1 (wX10 G h0 a0 f0 res.2)) args s 0 0 DA) (F0 m 27 ls [])) : ∀ (n : Nat) (A0 : Nat → Nat → Int32) (l2 : Int32) (l3 : Int32) (l4 : Int32) (l5 : Int32) (l6 : Int32) (l7 : Int32), f10_lanes_l36 f0 p1 k27 n A0 l2 l3 l4 l5 l6 l7 = some res → ∀ (H : Heap) (locs : List Loc) (ls : Array Slot), WD G DA (wX10 G h0 a0 f0 A0) H → va_S DA s.heap H locs → lv_has ls 8 [(0, .ref h0), (1, .int p1), (2, .int l2), (3, .int l3), (4, .int l4), (5, .int l5), (6, .int l6), (7, .int l7)] → W p l e rmX10_lanes s m args below meth c H locs 0 0 (MQ below (QI G DA res.1 (wX10 G h0 a0 f0 res.2)) args s 0 0 DA) (F0 m 36 ls []) := by
  intro n
  induction n with
  | zero => intro A0 l2 l3 l4 l5 l6 l7 h; cases h
  | succ n ih => intro A0 l2 l3 l4 l5 l6 l7 h; exact ww_f10_lanes_b36 C0 hk27 ih A0 l2 l3 l4 l5 l6 l7 h
set_option maxRecDepth 100000 in
set_option maxHeartbeats 4000000 in
theorem ww_f10_lanes_b27  (C0 : Cx cX10_lanes 8 (some .int) RX10 p s m args meth c G DA) {h0 : Nat} {a0 : Nat → Nat} {f0 : Nat → Int32} {p1 : Int32}  {k27 : (Nat → Nat → Int32) → Int32 → Int32 → Int32 → Int32 → Int32 → Option (Int32 × (Nat → Nat → Int32))} {res : Int32 × (Nat → Nat → Int32)}  (hk27 : ∀ (A0 : Nat → Nat → Int32) (l2 : Int32) (l3 : Int32) (l4 : Int32) (l5 : Int32) (l6 : Int32), k27 A0 l2 l3 l4 l5 l6 = some res → ∀ (H : Heap) (locs : List Loc) (ls : Array Slot), WD G DA (wX10 G h0 a0 f0 A0) H → va_S DA s.heap H locs → lv_has ls 8 [(0, .ref h0), (1, .int p1), (2, .int l2), (3, .int l3), (4, .int l4), (5, .int l5), (6, .int l6)] → W p l e rmX10_lanes s m args below meth c H locs 0 0 (MQ below (QI G DA res.1 (wX10 G h0 a0 f0 res.2)) args s 0 0 DA) (F0 m 27 ls [])) : ∀ (A0 : Nat → Nat → Int32) (l2 : Int32) (l3 : Int32) (l4 : Int32) (l5 : Int32) (l6 : Int32), f10_lanes_b27 f0 p1  k27 A0 l2 l3 l4 l5 l6 = some res → ∀ (H : Heap) (locs : List Loc) (ls : Array Slot), WD G DA (wX10 G h0 a0 f0 A0) H → va_S DA s.heap H locs → lv_has ls 8 [(0, .ref h0), (1, .int p1), (2, .int l2), (3, .int l3), (4, .int l4), (5, .int l5), (6, .int l6)] → W p l e rmX10_lanes s m args below meth c H locs 0 0 (MQ below (QI G DA res.1 (wX10 G h0 a0 f0 res.2)) args s 0 0 DA) (F0 m 27 ls []) := by
  obtain ⟨hx, hb, hml, hown, hts⟩ := C0.1
  have hK := C0.2.2.2.1
  intro A0 l2 l3 l4 l5 l6 h _ _ _ hPD hS hl
  unfold f10_lanes_b27 at h
  refine lv_iload hx hb dX10_lanes_27 (lv_at hl 6 rfl) ?_
  refine lv_if_lt (tgt := 103) hx hb dX10_lanes_29 (by decide) (fun cc1 => ?_) (fun cc1 => ?_)
  · have h := (if_pos cc1).symm.trans h
    refine lv_iload_n hx hb dX10_lanes_103 rfl (lv_at hl 1 rfl) ?_
    refine lv_if_ne (tgt := 111) hx hb dX10_lanes_104 (by decide) (fun cc1 => ?_) (fun cc1 => ?_)
    · have h := (if_neg cc1).symm.trans h
      refine lv_iload_n hx hb dX10_lanes_111 rfl (lv_at hl 1 rfl) ?_
      refine lv_iconst (v := 1) hx hb dX10_lanes_112 (by decide) ?_
      refine lv_icmp_ne (tgt := 120) hx hb dX10_lanes_113 (by decide) (fun cc1 => ?_) (fun cc1 => ?_)
      · have h := (if_neg cc1).symm.trans h
        refine lv_iload_n hx hb dX10_lanes_120 rfl (lv_at hl 1 rfl) ?_
        refine lv_iconst (v := 2) hx hb dX10_lanes_121 (by decide) ?_
        refine lv_icmp_ne (tgt := 130) hx hb dX10_lanes_122 (by decide) (fun cc1 => ?_) (fun cc1 => ?_)
        · have h := (if_neg cc1).symm.trans h
          refine lv_iload hx hb dX10_lanes_130 (lv_at hl 5 rfl) ?_
          obtain rfl := Option.some.inj h
          exact eI C0 hPD.1 hPD.2 hS rfl dX10_lanes_132
        · have h := (if_pos cc1).symm.trans h
          refine lv_iload hx hb dX10_lanes_125 (lv_at hl 4 rfl) ?_
          refine lv_goto (tgt := 132) hx hb dX10_lanes_127 (by decide) ?_
          obtain rfl := Option.some.inj h
          exact eI C0 hPD.1 hPD.2 hS rfl dX10_lanes_132
      · have h := (if_pos cc1).symm.trans h
        refine lv_iload_n hx hb dX10_lanes_116 rfl (lv_at hl 3 rfl) ?_
        refine lv_goto (tgt := 132) hx hb dX10_lanes_117 (by decide) ?_
        obtain rfl := Option.some.inj h
        exact eI C0 hPD.1 hPD.2 hS rfl dX10_lanes_132
    · have h := (if_pos cc1).symm.trans h
      refine lv_iload_n hx hb dX10_lanes_107 rfl (lv_at hl 2 rfl) ?_
      refine lv_goto (tgt := 132) hx hb dX10_lanes_108 (by decide) ?_
      obtain rfl := Option.some.inj h
      exact eI C0 hPD.1 hPD.2 hS rfl dX10_lanes_132
  · have h := (if_neg cc1).symm.trans h
    refine lv_bipush (v := 15) hx hb dX10_lanes_32 (by decide) ?_
    refine lv_istore (lv' := [(7, .int 15), (0, .ref h0), (1, .int p1), (2, .int l2), (3, .int l3), (4, .int l4), (5, .int l5), (6, .int l6)]) hx hb dX10_lanes_34 hl (by decide) rfl (fun ls hl => ?_)
    exact ww_f10_lanes_l36 C0 hk27 NF A0 l2 l3 l4 l5 l6 15 h _ _ _ hPD hS (lv_sub hl [1, 2, 3, 4, 5, 6, 7, 0] rfl)
set_option maxRecDepth 100000 in
set_option maxHeartbeats 4000000 in
theorem ww_f10_lanes_l27  (C0 : Cx cX10_lanes 8 (some .int) RX10 p s m args meth c G DA) {h0 : Nat} {a0 : Nat → Nat} {f0 : Nat → Int32} {p1 : Int32}   {res : Int32 × (Nat → Nat → Int32)}  : ∀ (n : Nat) (A0 : Nat → Nat → Int32) (l2 : Int32) (l3 : Int32) (l4 : Int32) (l5 : Int32) (l6 : Int32), f10_lanes_l27 f0 p1  n A0 l2 l3 l4 l5 l6 = some res → ∀ (H : Heap) (locs : List Loc) (ls : Array Slot), WD G DA (wX10 G h0 a0 f0 A0) H → va_S DA s.heap H locs → lv_has ls 8 [(0, .ref h0), (1, .int p1), (2, .int l2), (3, .int l3), (4, .int l4), (5, .int l5), (6, .int l6)] → W p l e rmX10_lanes s m args below meth c H locs 0 0 (MQ below (QI G DA res.1 (wX10 G h0 a0 f0 res.2)) args s 0 0 DA) (F0 m 27 ls []) := by
  intro n
  induction n with
  | zero => intro A0 l2 l3 l4 l5 l6 h; cases h
  | succ n ih => intro A0 l2 l3 l4 l5 l6 h; exact ww_f10_lanes_b27 C0  ih A0 l2 l3 l4 l5 l6 h
set_option maxRecDepth 100000 in
set_option maxHeartbeats 4000000 in
theorem kt_X10_lanes (l : Launch) (G : Gp) (h0 : Nat) (a0 : Nat → Nat) (f0 : Nat → Int32) (A0 : Nat → Nat → Int32) (p1 : Int32) : ∀ {r : Int32 × (Nat → Nat → Int32)}, f10_lanes f0 A0 p1 = some r → CtrI l yX10_lanes cX10_lanes 8 (some .int) rmX10_lanes G [.ref h0, .int p1] (wX10 G h0 a0 f0 A0) r.1 (wX10 G h0 a0 f0 r.2) := by
  intro res h
  refine ctrI_of (cc := cX10_lanes) (maxL := 8) (ret := (some .int)) (by decide +kernel) rfl (Nat.le_of_ble_eq_true rfl) (fun p e s m below meth c DA C0 hP hD ls hl => ?_)
  have hPD : WD G DA (wX10 G h0 a0 f0 A0) s.heap := ⟨hP, hD⟩
  have hS : va_S DA s.heap s.heap [] := va_S.rf
  have hl : lv_has ls 8 [(0, .ref h0), (1, .int p1)] := hl
  obtain ⟨hx, hb, hml, hown, hts⟩ := C0.1
  have hK := C0.2.2.2.1
  unfold f10_lanes at h
  refine lv_iload_n hx hb dX10_lanes_0 rfl (lv_at hl 1 rfl) ?_
  refine lv_iconst (v := 0) hx hb dX10_lanes_1 (by decide) ?_
  refine lv_iconst (v := 3) hx hb dX10_lanes_2 (by decide) ?_
  refine kSI (As := [.int p1, .int 0, .int 3]) (rest := []) C0 (kt_X10_in l G  p1 0 3) gi_S_X10_112_X10_in (n := 3) rfl (by decide +kernel) ⟨rfl, rfl, Nat.le_of_ble_eq_true rfl, Nat.le_of_ble_eq_true rfl⟩ hPD hS [] [0, 1, 2, 3, 4, 5, 6, 7, 8, 9, 10, 11, 12, 13, 14, 15, 16, 17, 18, 19, 20, 21, 22, 23, 24, 25, 26, 27, 28, 29, 30, 31, 32, 33] [0, 1, 2, 3, 4, 5, 6, 7, 8, 9, 10, 11, 12, 13, 14, 15, 16, 17, 18, 19, 20, 21, 22, 23, 24, 25, 26, 27, 28, 29, 30, 31, 32, 33] (wN := (wX10 G h0 a0 f0 A0)) rfl rfl rfl rfl rfl hl.1 (Nat.le_of_ble_eq_true rfl) dX10_lanes_3 (fun H locs hPD hS => ?_)
  refine lv_if_ne (tgt := 11) hx hb dX10_lanes_6 (by decide) (fun cc1 => ?_) (fun cc1 => ?_)
  · have h := (if_neg cc1).symm.trans h
    refine lv_iconst (v := 0) hx hb dX10_lanes_11 (by decide) ?_
    refine lv_istore_n (lv' := [(2, .int 0), (0, .ref h0), (1, .int p1)]) hx hb dX10_lanes_12 rfl hl (by decide) rfl (fun ls hl => ?_)
    refine lv_iconst (v := 0) hx hb dX10_lanes_13 (by decide) ?_
    refine lv_istore_n (lv' := [(3, .int 0), (2, .int 0), (0, .ref h0), (1, .int p1)]) hx hb dX10_lanes_14 rfl hl (by decide) rfl (fun ls hl => ?_)
    refine lv_bipush (v := (-2)) hx hb dX10_lanes_15 (by decide) ?_
    refine lv_istore (lv' := [(4, .int (-2)), (3, .int 0), (2, .int 0), (0, .ref h0), (1, .int p1)]) hx hb dX10_lanes_17 hl (by decide) rfl (fun ls hl => ?_)
    refine lv_bipush (v := (-2)) hx hb dX10_lanes_19 (by decide) ?_
    refine lv_istore (lv' := [(5, .int (-2)), (4, .int (-2)), (3, .int 0), (2, .int 0), (0, .ref h0), (1, .int p1)]) hx hb dX10_lanes_21 hl (by decide) rfl (fun ls hl => ?_)
    refine lv_bipush (v := 15) hx hb dX10_lanes_23 (by decide) ?_
    refine lv_istore (lv' := [(6, .int 15), (5, .int (-2)), (4, .int (-2)), (3, .int 0), (2, .int 0), (0, .ref h0), (1, .int p1)]) hx hb dX10_lanes_25 hl (by decide) rfl (fun ls hl => ?_)
    exact ww_f10_lanes_l27 C0 NF A0 0 0 (-2) (-2) 15 h _ _ _ hPD hS (lv_sub hl [5, 6, 4, 3, 2, 1, 0] rfl)
  · have h := (if_pos cc1).symm.trans h
    refine lv_iconst (v := (-1)) hx hb dX10_lanes_9 (by decide) ?_
    obtain rfl := Option.some.inj h
    exact eI C0 hPD.1 hPD.2 hS rfl dX10_lanes_10
abbrev rmX10_clashes : Room := { frames := 1, cells := 0, slots := 0, locals := 21 }
set_option maxRecDepth 100000 in
set_option maxHeartbeats 4000000 in
theorem ww_f10_clashes_b2  (C0 : Cx cX10_clashes 3 (some .boolean) RX10 p s m args meth c G DA) {h0 : Nat} {a0 : Nat → Nat} {f0 : Nat → Int32} {A0 : Nat → Nat → Int32} {p1 : Int32}  {k2 : Int32 → Option (Int32)} {res : Int32}  (hk2 : ∀ (l2 : Int32), k2 l2 = some res → ∀ (H : Heap) (locs : List Loc) (ls : Array Slot), WD G DA (wX10 G h0 a0 f0 A0) H → va_S DA s.heap H locs → lv_has ls 3 [(0, .ref h0), (1, .int p1), (2, .int l2)] → W p l e rmX10_clashes s m args below meth c H locs 0 0 (MQ below (QI G DA res (wX10 G h0 a0 f0 A0)) args s 0 0 DA) (F0 m 2 ls [])) : ∀ (l2 : Int32), f10_clashes_b2 f0 A0 p1  k2 l2 = some res → ∀ (H : Heap) (locs : List Loc) (ls : Array Slot), WD G DA (wX10 G h0 a0 f0 A0) H → va_S DA s.heap H locs → lv_has ls 3 [(0, .ref h0), (1, .int p1), (2, .int l2)] → W p l e rmX10_clashes s m args below meth c H locs 0 0 (MQ below (QI G DA res (wX10 G h0 a0 f0 A0)) args s 0 0 DA) (F0 m 2 ls []) := by
  obtain ⟨hx, hb, hml, hown, hts⟩ := C0.1
  have hK := C0.2.2.2.1
  intro l2 h _ _ _ hPD hS hl
  unfold f10_clashes_b2 at h
  refine lv_iload_n hx hb dX10_clashes_2 rfl (lv_at hl 2 rfl) ?_
  refine lv_iload_n hx hb dX10_clashes_3 rfl (lv_at hl 1 rfl) ?_
  refine lv_icmp_ge (tgt := 53) hx hb dX10_clashes_4 (by decide) (fun cc1 => ?_) (fun cc1 => ?_)
  · have h := (if_pos cc1).symm.trans h
    refine lv_iconst (v := 0) hx hb dX10_clashes_53 (by decide) ?_
    obtain rfl := Option.some.inj h
    exact eZ C0 hPD.1 hPD.2 hS rfl rfl dX10_clashes_54
  · have h := (if_neg cc1).symm.trans h
    refine lv_aload_n hx hb dX10_clashes_7 rfl (lv_at hl 0 rfl) ?_
    refine va_get (D := G.1) (ci := 10) (v := .ref (a0 48)) (C := RX10) (T := TX10) (N := 52) hx hb hts inlX10 hown hK hPD.1 0 rfl rfl 48 (by decide) (hts _ gw_797) (fun _ h9 => h9) rfl dX10_clashes_8 ?_
    refine lv_iload_n hx hb dX10_clashes_11 rfl (lv_at hl 2 rfl) ?_
    obtain ⟨hi_1, h⟩ := ob h
    refine va_iald hx hb hK hPD.1 31 1 rfl rfl hi_1 dX10_clashes_12 ?_
    refine lv_aload_n hx hb dX10_clashes_13 rfl (lv_at hl 0 rfl) ?_
    refine va_get (D := G.1) (ci := 10) (v := .ref (a0 48)) (C := RX10) (T := TX10) (N := 52) hx hb hts inlX10 hown hK hPD.1 0 rfl rfl 48 (by decide) (hts _ gw_797) (fun _ h9 => h9) rfl dX10_clashes_14 ?_
    refine lv_iload_n hx hb dX10_clashes_17 rfl (lv_at hl 1 rfl) ?_
    obtain ⟨hi_2, h⟩ := ob h
    refine va_iald hx hb hK hPD.1 31 1 rfl rfl hi_2 dX10_clashes_18 ?_
    refine lv_icmp_ne (tgt := 47) hx hb dX10_clashes_19 (by decide) (fun cc1 => ?_) (fun cc1 => ?_)
    · have h := (if_neg cc1).symm.trans h
      refine lv_iinc (v := l2 + 1) (lv' := [(2, .int (l2 + 1)), (0, .ref h0), (1, .int p1)]) hx hb dX10_clashes_47 hl (k := 2) rfl rfl (by decide) rfl (fun ls hl => ?_)
      refine lv_goto (tgt := 2) hx hb dX10_clashes_50 (by decide) ?_
      exact hk2 (l2 + 1) h _ _ _ hPD hS (lv_sub hl [1, 2, 0] rfl)
    · have h := (if_pos cc1).symm.trans h
      refine lv_aload_n hx hb dX10_clashes_22 rfl (lv_at hl 0 rfl) ?_
      refine va_get (D := G.1) (ci := 10) (v := .ref (a0 3)) (C := RX10) (T := TX10) (N := 52) hx hb hts inlX10 hown hK hPD.1 0 rfl rfl 3 (by decide) (hts _ gw_666) (fun _ h9 => h9) rfl dX10_clashes_23 ?_
      refine lv_aload_n hx hb dX10_clashes_26 rfl (lv_at hl 0 rfl) ?_
      refine va_get (D := G.1) (ci := 10) (v := .ref (a0 49)) (C := RX10) (T := TX10) (N := 52) hx hb hts inlX10 hown hK hPD.1 0 rfl rfl 49 (by decide) (hts _ gw_798) (fun _ h9 => h9) rfl dX10_clashes_27 ?_
      refine lv_iload_n hx hb dX10_clashes_30 rfl (lv_at hl 1 rfl) ?_
      obtain ⟨hi_3, h⟩ := ob h
      refine va_iald hx hb hK hPD.1 32 1 rfl rfl hi_3 dX10_clashes_31 ?_
      obtain ⟨hi_4, h⟩ := ob h
      refine va_iald hx hb hK hPD.1 4 1 rfl rfl hi_4 dX10_clashes_32 ?_
      refine lv_aload_n hx hb dX10_clashes_33 rfl (lv_at hl 0 rfl) ?_
      refine va_get (D := G.1) (ci := 10) (v := .ref (a0 49)) (C := RX10) (T := TX10) (N := 52) hx hb hts inlX10 hown hK hPD.1 0 rfl rfl 49 (by decide) (hts _ gw_798) (fun _ h9 => h9) rfl dX10_clashes_34 ?_
      refine lv_iload_n hx hb dX10_clashes_37 rfl (lv_at hl 2 rfl) ?_
      obtain ⟨hi_5, h⟩ := ob h
      refine va_iald hx hb hK hPD.1 32 1 rfl rfl hi_5 dX10_clashes_38 ?_
      refine kSI (As := [.int (gx (A0 3) (gx (A0 49) p1)), .int (gx (A0 49) l2)]) (rest := []) C0 (kt_X10_has l G  (gx (A0 3) (gx (A0 49) p1)) (gx (A0 49) l2)) gi_S_X10_120_X10_has (n := 2) rfl (by decide +kernel) ⟨rfl, rfl, Nat.le_of_ble_eq_true rfl, Nat.le_of_ble_eq_true rfl⟩ hPD hS [] [0, 1, 2, 3, 4, 5, 6, 7, 8, 9, 10, 11, 12, 13, 14, 15, 16, 17, 18, 19, 20, 21, 22, 23, 24, 25, 26, 27, 28, 29, 30, 31, 32, 33] [0, 1, 2, 3, 4, 5, 6, 7, 8, 9, 10, 11, 12, 13, 14, 15, 16, 17, 18, 19, 20, 21, 22, 23, 24, 25, 26, 27, 28, 29, 30, 31, 32, 33] (wN := (wX10 G h0 a0 f0 A0)) rfl rfl rfl rfl rfl hl.1 (Nat.le_of_ble_eq_true rfl) dX10_clashes_39 (fun H locs hPD hS => ?_)
      refine lv_if_eq (tgt := 47) hx hb dX10_clashes_42 (by decide) (fun cc1 => ?_) (fun cc1 => ?_)
      · have h := (if_pos cc1).symm.trans h
        refine lv_iinc (v := l2 + 1) (lv' := [(2, .int (l2 + 1)), (0, .ref h0), (1, .int p1)]) hx hb dX10_clashes_47 hl (k := 2) rfl rfl (by decide) rfl (fun ls hl => ?_)
        refine lv_goto (tgt := 2) hx hb dX10_clashes_50 (by decide) ?_
        exact hk2 (l2 + 1) h _ _ _ hPD hS (lv_sub hl [1, 2, 0] rfl)
      · have h := (if_neg cc1).symm.trans h
        refine lv_iconst (v := 1) hx hb dX10_clashes_45 (by decide) ?_
        obtain rfl := Option.some.inj h
        exact eZ C0 hPD.1 hPD.2 hS rfl rfl dX10_clashes_46
set_option maxRecDepth 100000 in
set_option maxHeartbeats 4000000 in
theorem ww_f10_clashes_l2  (C0 : Cx cX10_clashes 3 (some .boolean) RX10 p s m args meth c G DA) {h0 : Nat} {a0 : Nat → Nat} {f0 : Nat → Int32} {A0 : Nat → Nat → Int32} {p1 : Int32}   {res : Int32}  : ∀ (n : Nat) (l2 : Int32), f10_clashes_l2 f0 A0 p1  n l2 = some res → ∀ (H : Heap) (locs : List Loc) (ls : Array Slot), WD G DA (wX10 G h0 a0 f0 A0) H → va_S DA s.heap H locs → lv_has ls 3 [(0, .ref h0), (1, .int p1), (2, .int l2)] → W p l e rmX10_clashes s m args below meth c H locs 0 0 (MQ below (QI G DA res (wX10 G h0 a0 f0 A0)) args s 0 0 DA) (F0 m 2 ls []) := by
  intro n
  induction n with
  | zero => intro l2 h; cases h
  | succ n ih => intro l2 h; exact ww_f10_clashes_b2 C0  ih l2 h
set_option maxRecDepth 100000 in
set_option maxHeartbeats 4000000 in
theorem kt_X10_clashes (l : Launch) (G : Gp) (h0 : Nat) (a0 : Nat → Nat) (f0 : Nat → Int32) (A0 : Nat → Nat → Int32) (p1 : Int32) : ∀ {r : Int32}, f10_clashes f0 A0 p1 = some r → CtrI l yX10_clashes cX10_clashes 3 (some .boolean) rmX10_clashes G [.ref h0, .int p1] (wX10 G h0 a0 f0 A0) r (wX10 G h0 a0 f0 A0) := by
  intro res h
  refine ctrI_of (cc := cX10_clashes) (maxL := 3) (ret := (some .boolean)) (by decide +kernel) rfl (Nat.le_of_ble_eq_true rfl) (fun p e s m below meth c DA C0 hP hD ls hl => ?_)
  have hPD : WD G DA (wX10 G h0 a0 f0 A0) s.heap := ⟨hP, hD⟩
  have hS : va_S DA s.heap s.heap [] := va_S.rf
  have hl : lv_has ls 3 [(0, .ref h0), (1, .int p1)] := hl
  obtain ⟨hx, hb, hml, hown, hts⟩ := C0.1
  have hK := C0.2.2.2.1
  unfold f10_clashes at h
  refine lv_iconst (v := 0) hx hb dX10_clashes_0 (by decide) ?_
  refine lv_istore_n (lv' := [(2, .int 0), (0, .ref h0), (1, .int p1)]) hx hb dX10_clashes_1 rfl hl (by decide) rfl (fun ls hl => ?_)
  exact ww_f10_clashes_l2 C0 NF 0 h _ _ _ hPD hS (lv_sub hl [1, 2, 0] rfl)
abbrev rmX10_highestOf : Room := { frames := 1, cells := 0, slots := 0, locals := 21 }
set_option maxRecDepth 100000 in
set_option maxHeartbeats 4000000 in
theorem ww_f10_highestOf_b4  (C0 : Cx cX10_highestOf 4 (some .int) RX10 p s m args meth c G DA) {h0 : Nat} {a0 : Nat → Nat} {f0 : Nat → Int32} {A0 : Nat → Nat → Int32} {p1 : Int32}  {k4 : Int32 → Int32 → Option (Int32)} {res : Int32}  (hk4 : ∀ (l2 : Int32) (l3 : Int32), k4 l2 l3 = some res → ∀ (H : Heap) (locs : List Loc) (ls : Array Slot), WD G DA (wX10 G h0 a0 f0 A0) H → va_S DA s.heap H locs → lv_has ls 4 [(0, .ref h0), (1, .int p1), (2, .int l2), (3, .int l3)] → W p l e rmX10_highestOf s m args below meth c H locs 0 0 (MQ below (QI G DA res (wX10 G h0 a0 f0 A0)) args s 0 0 DA) (F0 m 4 ls [])) : ∀ (l2 : Int32) (l3 : Int32), f10_highestOf_b4 f0 A0 p1  k4 l2 l3 = some res → ∀ (H : Heap) (locs : List Loc) (ls : Array Slot), WD G DA (wX10 G h0 a0 f0 A0) H → va_S DA s.heap H locs → lv_has ls 4 [(0, .ref h0), (1, .int p1), (2, .int l2), (3, .int l3)] → W p l e rmX10_highestOf s m args below meth c H locs 0 0 (MQ below (QI G DA res (wX10 G h0 a0 f0 A0)) args s 0 0 DA) (F0 m 4 ls []) := by
  obtain ⟨hx, hb, hml, hown, hts⟩ := C0.1
  have hK := C0.2.2.2.1
  intro l2 l3 h _ _ _ hPD hS hl
  unfold f10_highestOf_b4 at h
  refine lv_iload_n hx hb dX10_highestOf_4 rfl (lv_at hl 3 rfl) ?_
  refine lv_iload_n hx hb dX10_highestOf_5 rfl (lv_at hl 1 rfl) ?_
  refine lv_icmp_ge (tgt := 26) hx hb dX10_highestOf_6 (by decide) (fun cc1 => ?_) (fun cc1 => ?_)
  · have h := (if_pos cc1).symm.trans h
    refine lv_iload_n hx hb dX10_highestOf_26 rfl (lv_at hl 2 rfl) ?_
    obtain rfl := Option.some.inj h
    exact eI C0 hPD.1 hPD.2 hS rfl dX10_highestOf_27
  · have h := (if_neg cc1).symm.trans h
    refine lv_iload_n hx hb dX10_highestOf_9 rfl (lv_at hl 2 rfl) ?_
    refine lv_aload_n hx hb dX10_highestOf_10 rfl (lv_at hl 0 rfl) ?_
    refine va_get (D := G.1) (ci := 10) (v := .ref (a0 48)) (C := RX10) (T := TX10) (N := 52) hx hb hts inlX10 hown hK hPD.1 0 rfl rfl 48 (by decide) (hts _ gw_797) (fun _ h9 => h9) rfl dX10_highestOf_11 ?_
    refine lv_iload_n hx hb dX10_highestOf_14 rfl (lv_at hl 3 rfl) ?_
    obtain ⟨hi_1, h⟩ := ob h
    refine va_iald hx hb hK hPD.1 31 1 rfl rfl hi_1 dX10_highestOf_15 ?_
    refine kSI (As := [.int l2, .int (gx (A0 48) l3)]) (rest := []) C0 (kt_X10_max l G  l2 (gx (A0 48) l3)) gi_S_X10_287_X10_max (n := 2) rfl (by decide +kernel) ⟨rfl, rfl, Nat.le_of_ble_eq_true rfl, Nat.le_of_ble_eq_true rfl⟩ hPD hS [] [0, 1, 2, 3, 4, 5, 6, 7, 8, 9, 10, 11, 12, 13, 14, 15, 16, 17, 18, 19, 20, 21, 22, 23, 24, 25, 26, 27, 28, 29, 30, 31, 32, 33] [0, 1, 2, 3, 4, 5, 6, 7, 8, 9, 10, 11, 12, 13, 14, 15, 16, 17, 18, 19, 20, 21, 22, 23, 24, 25, 26, 27, 28, 29, 30, 31, 32, 33] (wN := (wX10 G h0 a0 f0 A0)) rfl rfl rfl rfl rfl hl.1 (Nat.le_of_ble_eq_true rfl) dX10_highestOf_16 (fun H locs hPD hS => ?_)
    refine lv_istore_n (lv' := [(2, .int (f10_max l2 (gx (A0 48) l3))), (0, .ref h0), (1, .int p1), (3, .int l3)]) hx hb dX10_highestOf_19 rfl hl (by decide) rfl (fun ls hl => ?_)
    refine lv_iinc (v := l3 + 1) (lv' := [(3, .int (l3 + 1)), (2, .int (f10_max l2 (gx (A0 48) l3))), (0, .ref h0), (1, .int p1)]) hx hb dX10_highestOf_20 hl (k := 3) rfl rfl (by decide) rfl (fun ls hl => ?_)
    refine lv_goto (tgt := 4) hx hb dX10_highestOf_23 (by decide) ?_
    exact hk4 (f10_max l2 (gx (A0 48) l3)) (l3 + 1) h _ _ _ hPD hS (lv_sub hl [2, 3, 1, 0] rfl)
set_option maxRecDepth 100000 in
set_option maxHeartbeats 4000000 in
theorem ww_f10_highestOf_l4  (C0 : Cx cX10_highestOf 4 (some .int) RX10 p s m args meth c G DA) {h0 : Nat} {a0 : Nat → Nat} {f0 : Nat → Int32} {A0 : Nat → Nat → Int32} {p1 : Int32}   {res : Int32}  : ∀ (n : Nat) (l2 : Int32) (l3 : Int32), f10_highestOf_l4 f0 A0 p1  n l2 l3 = some res → ∀ (H : Heap) (locs : List Loc) (ls : Array Slot), WD G DA (wX10 G h0 a0 f0 A0) H → va_S DA s.heap H locs → lv_has ls 4 [(0, .ref h0), (1, .int p1), (2, .int l2), (3, .int l3)] → W p l e rmX10_highestOf s m args below meth c H locs 0 0 (MQ below (QI G DA res (wX10 G h0 a0 f0 A0)) args s 0 0 DA) (F0 m 4 ls []) := by
  intro n
  induction n with
  | zero => intro l2 l3 h; cases h
  | succ n ih => intro l2 l3 h; exact ww_f10_highestOf_b4 C0  ih l2 l3 h
set_option maxRecDepth 100000 in
set_option maxHeartbeats 4000000 in
theorem kt_X10_highestOf (l : Launch) (G : Gp) (h0 : Nat) (a0 : Nat → Nat) (f0 : Nat → Int32) (A0 : Nat → Nat → Int32) (p1 : Int32) : ∀ {r : Int32}, f10_highestOf f0 A0 p1 = some r → CtrI l yX10_highestOf cX10_highestOf 4 (some .int) rmX10_highestOf G [.ref h0, .int p1] (wX10 G h0 a0 f0 A0) r (wX10 G h0 a0 f0 A0) := by
  intro res h
  refine ctrI_of (cc := cX10_highestOf) (maxL := 4) (ret := (some .int)) (by decide +kernel) rfl (Nat.le_of_ble_eq_true rfl) (fun p e s m below meth c DA C0 hP hD ls hl => ?_)
  have hPD : WD G DA (wX10 G h0 a0 f0 A0) s.heap := ⟨hP, hD⟩
  have hS : va_S DA s.heap s.heap [] := va_S.rf
  have hl : lv_has ls 4 [(0, .ref h0), (1, .int p1)] := hl
  obtain ⟨hx, hb, hml, hown, hts⟩ := C0.1
  have hK := C0.2.2.2.1
  unfold f10_highestOf at h
  refine lv_iconst (v := (-1)) hx hb dX10_highestOf_0 (by decide) ?_
  refine lv_istore_n (lv' := [(2, .int (-1)), (0, .ref h0), (1, .int p1)]) hx hb dX10_highestOf_1 rfl hl (by decide) rfl (fun ls hl => ?_)
  refine lv_iconst (v := 0) hx hb dX10_highestOf_2 (by decide) ?_
  refine lv_istore_n (lv' := [(3, .int 0), (2, .int (-1)), (0, .ref h0), (1, .int p1)]) hx hb dX10_highestOf_3 rfl hl (by decide) rfl (fun ls hl => ?_)
  exact ww_f10_highestOf_l4 C0 NF (-1) 0 h _ _ _ hPD hS (lv_sub hl [2, 3, 1, 0] rfl)
abbrev rmX10_laysWatches : Room := { frames := 2, cells := 0, slots := 0, locals := 44 }
set_option maxRecDepth 100000 in
set_option maxHeartbeats 4000000 in
theorem ww_f10_laysWatches_b9  (C0 : Cx cX10_laysWatches 4 (some .boolean) RX10 p s m args meth c G DA) {h0 : Nat} {a0 : Nat → Nat} {f0 : Nat → Int32} {p1 : Int32} {p2 : Int32}  {k9 : (Nat → Nat → Int32) → Int32 → Option (Int32 × (Nat → Nat → Int32))} {res : Int32 × (Nat → Nat → Int32)}  (hk9 : ∀ (A0 : Nat → Nat → Int32) (l3 : Int32), k9 A0 l3 = some res → ∀ (H : Heap) (locs : List Loc) (ls : Array Slot), WD G DA (wX10 G h0 a0 f0 A0) H → va_S DA s.heap H locs → lv_has ls 4 [(0, .ref h0), (1, .int p1), (2, .int p2), (3, .int l3)] → W p l e rmX10_laysWatches s m args below meth c H locs 0 0 (MQ below (QI G DA res.1 (wX10 G h0 a0 f0 res.2)) args s 0 0 DA) (F0 m 9 ls [])) : ∀ (A0 : Nat → Nat → Int32) (l3 : Int32), f10_laysWatches_b9 f0 p1 p2  k9 A0 l3 = some res → ∀ (H : Heap) (locs : List Loc) (ls : Array Slot), WD G DA (wX10 G h0 a0 f0 A0) H → va_S DA s.heap H locs → lv_has ls 4 [(0, .ref h0), (1, .int p1), (2, .int p2), (3, .int l3)] → W p l e rmX10_laysWatches s m args below meth c H locs 0 0 (MQ below (QI G DA res.1 (wX10 G h0 a0 f0 res.2)) args s 0 0 DA) (F0 m 9 ls []) := by
  obtain ⟨hx, hb, hml, hown, hts⟩ := C0.1
  have hK := C0.2.2.2.1
  intro A0 l3 h _ _ _ hPD hS hl
  unfold f10_laysWatches_b9 at h
  refine lv_iload_n hx hb dX10_laysWatches_9 rfl (lv_at hl 3 rfl) ?_
  refine lv_if_lt (tgt := 92) hx hb dX10_laysWatches_10 (by decide) (fun cc1 => ?_) (fun cc1 => ?_)
  · have h := (if_pos cc1).symm.trans h
    refine lv_iload_n hx hb dX10_laysWatches_92 rfl (lv_at hl 3 rfl) ?_
    refine lv_iload_n hx hb dX10_laysWatches_93 rfl (lv_at hl 1 rfl) ?_
    refine lv_icmp_ne (tgt := 101) hx hb dX10_laysWatches_94 (by decide) (fun cc1 => ?_) (fun cc1 => ?_)
    · have h := (if_neg cc1).symm.trans h
      refine lv_iconst (v := 0) hx hb dX10_laysWatches_101 (by decide) ?_
      obtain rfl := Option.some.inj h
      exact eZ C0 hPD.1 hPD.2 hS rfl rfl dX10_laysWatches_102
    · have h := (if_pos cc1).symm.trans h
      refine lv_iconst (v := 1) hx hb dX10_laysWatches_97 (by decide) ?_
      refine lv_goto (tgt := 102) hx hb dX10_laysWatches_98 (by decide) ?_
      obtain rfl := Option.some.inj h
      exact eZ C0 hPD.1 hPD.2 hS rfl rfl dX10_laysWatches_102
  · have h := (if_neg cc1).symm.trans h
    refine lv_iload_n hx hb dX10_laysWatches_13 rfl (lv_at hl 3 rfl) ?_
    refine lv_iload_n hx hb dX10_laysWatches_14 rfl (lv_at hl 1 rfl) ?_
    refine lv_icmp_ge (tgt := 92) hx hb dX10_laysWatches_15 (by decide) (fun cc1 => ?_) (fun cc1 => ?_)
    · have h := (if_pos cc1).symm.trans h
      refine lv_iload_n hx hb dX10_laysWatches_92 rfl (lv_at hl 3 rfl) ?_
      refine lv_iload_n hx hb dX10_laysWatches_93 rfl (lv_at hl 1 rfl) ?_
      refine lv_icmp_ne (tgt := 101) hx hb dX10_laysWatches_94 (by decide) (fun cc1 => ?_) (fun cc1 => ?_)
      · have h := (if_neg cc1).symm.trans h
        refine lv_iconst (v := 0) hx hb dX10_laysWatches_101 (by decide) ?_
        obtain rfl := Option.some.inj h
        exact eZ C0 hPD.1 hPD.2 hS rfl rfl dX10_laysWatches_102
      · have h := (if_pos cc1).symm.trans h
        refine lv_iconst (v := 1) hx hb dX10_laysWatches_97 (by decide) ?_
        refine lv_goto (tgt := 102) hx hb dX10_laysWatches_98 (by decide) ?_
        obtain rfl := Option.some.inj h
        exact eZ C0 hPD.1 hPD.2 hS rfl rfl dX10_laysWatches_102
    · have h := (if_neg cc1).symm.trans h
      refine lv_aload_n hx hb dX10_laysWatches_18 rfl (lv_at hl 0 rfl) ?_
      refine va_get (D := G.1) (ci := 10) (v := .ref (a0 48)) (C := RX10) (T := TX10) (N := 52) hx hb hts inlX10 hown hK hPD.1 0 rfl rfl 48 (by decide) (hts _ gw_797) (fun _ h9 => h9) rfl dX10_laysWatches_19 ?_
      refine lv_iload_n hx hb dX10_laysWatches_22 rfl (lv_at hl 3 rfl) ?_
      refine lv_aload_n hx hb dX10_laysWatches_23 rfl (lv_at hl 0 rfl) ?_
      refine va_get (D := G.1) (ci := 10) (v := .ref (a0 48)) (C := RX10) (T := TX10) (N := 52) hx hb hts inlX10 hown hK hPD.1 0 rfl rfl 48 (by decide) (hts _ gw_797) (fun _ h9 => h9) rfl dX10_laysWatches_24 ?_
      refine lv_iload_n hx hb dX10_laysWatches_27 rfl (lv_at hl 3 rfl) ?_
      obtain ⟨hi_2, h⟩ := ob h
      refine va_iald hx hb hK hPD.1 31 1 rfl rfl hi_2 dX10_laysWatches_28 ?_
      refine lv_iconst (v := 1) hx hb dX10_laysWatches_29 (by decide) ?_
      refine lv_iadd hx hb dX10_laysWatches_30 ?_
      obtain ⟨hi_3, h⟩ := ob h
      refine va_iast hx hb hK hPD.1 hPD.2 hS 31 1 rfl rfl hi_3 dX10_laysWatches_31 (fun H locs hP hD hS => ?_)
      obtain ⟨A0_4, eA0_4, h⟩ := lvl h
      have hPD : WD G DA (wX10 G h0 a0 f0 A0_4) H := by rw [eA0_4]; exact ⟨hP, hD⟩
      clear eA0_4 hP hD
      refine lv_aload_n hx hb dX10_laysWatches_32 rfl (lv_at hl 0 rfl) ?_
      refine va_get (D := G.1) (ci := 10) (v := .ref (a0 48)) (C := RX10) (T := TX10) (N := 52) hx hb hts inlX10 hown hK hPD.1 0 rfl rfl 48 (by decide) (hts _ gw_797) (fun _ h9 => h9) rfl dX10_laysWatches_33 ?_
      refine lv_iload_n hx hb dX10_laysWatches_36 rfl (lv_at hl 3 rfl) ?_
      obtain ⟨hi_5, h⟩ := ob h
      refine va_iald hx hb hK hPD.1 31 1 rfl rfl hi_5 dX10_laysWatches_37 ?_
      refine lv_iload_n hx hb dX10_laysWatches_38 rfl (lv_at hl 2 rfl) ?_
      refine lv_icmp_ge (tgt := 58) hx hb dX10_laysWatches_39 (by decide) (fun cc1 => ?_) (fun cc1 => ?_)
      · have h := (if_pos cc1).symm.trans h
        refine lv_iload_n hx hb dX10_laysWatches_58 rfl (lv_at hl 3 rfl) ?_
        refine lv_iconst (v := 1) hx hb dX10_laysWatches_59 (by decide) ?_
        refine lv_isub hx hb dX10_laysWatches_60 ?_
        refine lv_istore_n (lv' := [(3, .int (l3 - 1)), (0, .ref h0), (1, .int p1), (2, .int p2)]) hx hb dX10_laysWatches_61 rfl hl (by decide) rfl (fun ls hl => ?_)
        refine lv_goto (tgt := 9) hx hb dX10_laysWatches_62 (by decide) ?_
        exact hk9 A0_4 (l3 - 1) h _ _ _ hPD hS (lv_sub hl [1, 2, 3, 0] rfl)
      · have h := (if_neg cc1).symm.trans h
        refine lv_aload_n hx hb dX10_laysWatches_42 rfl (lv_at hl 0 rfl) ?_
        refine va_get (D := G.1) (ci := 10) (v := .ref (a0 48)) (C := RX10) (T := TX10) (N := 52) hx hb hts inlX10 hown hK hPD.1 0 rfl rfl 48 (by decide) (hts _ gw_797) (fun _ h9 => h9) rfl dX10_laysWatches_43 ?_
        refine lv_iload_n hx hb dX10_laysWatches_46 rfl (lv_at hl 3 rfl) ?_
        obtain ⟨hi_6, h⟩ := ob h
        refine va_iald hx hb hK hPD.1 31 1 rfl rfl hi_6 dX10_laysWatches_47 ?_
        refine lv_aload_n hx hb dX10_laysWatches_48 rfl (lv_at hl 0 rfl) ?_
        refine lv_iload_n hx hb dX10_laysWatches_49 rfl (lv_at hl 3 rfl) ?_
        obtain ⟨q_7, hq_7, h⟩ := ob2 h
        refine kVI (As := [.int l3]) (rest := [.int (gx (A0_4 48) l3)]) C0 (kt_X10_highestOf l G h0 a0 f0 A0_4 l3 hq_7) gi_V_X10_350_X10_highestOf (n := 1) rfl (by decide +kernel) rfl ⟨rfl, rfl, Nat.le_of_ble_eq_true rfl, Nat.le_of_ble_eq_true rfl⟩ hPD hS 0 10 rfl rfl rfl [0, 1, 2, 3, 4, 5, 6, 7, 8, 9, 10, 11, 12, 13, 14, 15, 16, 17, 18, 19, 20, 21, 22, 23, 24, 25, 26, 27, 28, 29, 30, 31, 32, 33] [] [0, 1, 2, 3, 4, 5, 6, 7, 8, 9, 10, 11, 12, 13, 14, 15, 16, 17, 18, 19, 20, 21, 22, 23, 24, 25, 26, 27, 28, 29, 30, 31, 32, 33] (wN := (wX10 G h0 a0 f0 A0_4)) rfl rfl rfl rfl rfl hl.1 (Nat.le_of_ble_eq_true rfl) dX10_laysWatches_50 (fun H locs hPD hS => ?_)
        refine lv_iconst (v := 1) hx hb dX10_laysWatches_53 (by decide) ?_
        refine lv_iadd hx hb dX10_laysWatches_54 ?_
        refine lv_icmp_le (tgt := 65) hx hb dX10_laysWatches_55 (by decide) (fun cc1 => ?_) (fun cc1 => ?_)
        · have h := (if_pos cc1).symm.trans h
          refine lv_aload_n hx hb dX10_laysWatches_65 rfl (lv_at hl 0 rfl) ?_
          refine lv_iload_n hx hb dX10_laysWatches_66 rfl (lv_at hl 3 rfl) ?_
          obtain ⟨q_8, hq_8, h⟩ := ob2 h
          refine kVI (As := [.int l3]) (rest := []) C0 (kt_X10_clashes l G h0 a0 f0 A0_4 l3 hq_8) gi_V_X10_353_X10_clashes (n := 1) rfl (by decide +kernel) rfl ⟨rfl, rfl, Nat.le_of_ble_eq_true rfl, Nat.le_of_ble_eq_true rfl⟩ hPD hS 0 10 rfl rfl rfl [0, 1, 2, 3, 4, 5, 6, 7, 8, 9, 10, 11, 12, 13, 14, 15, 16, 17, 18, 19, 20, 21, 22, 23, 24, 25, 26, 27, 28, 29, 30, 31, 32, 33] [] [0, 1, 2, 3, 4, 5, 6, 7, 8, 9, 10, 11, 12, 13, 14, 15, 16, 17, 18, 19, 20, 21, 22, 23, 24, 25, 26, 27, 28, 29, 30, 31, 32, 33] (wN := (wX10 G h0 a0 f0 A0_4)) rfl rfl rfl rfl rfl hl.1 (Nat.le_of_ble_eq_true rfl) dX10_laysWatches_67 (fun H locs hPD hS => ?_)
          refine lv_if_ne (tgt := 9) hx hb dX10_laysWatches_70 (by decide) (fun cc1 => ?_) (fun cc1 => ?_)
          · have h := (if_neg cc1).symm.trans h
            exact hk9 A0_4 l3 h _ _ _ hPD hS (lv_sub hl [0, 1, 2, 3] rfl)
          · have h := (if_pos cc1).symm.trans h
            refine lv_iload_n hx hb dX10_laysWatches_73 rfl (lv_at hl 3 rfl) ?_
            refine lv_iconst (v := 1) hx hb dX10_laysWatches_74 (by decide) ?_
            refine lv_iadd hx hb dX10_laysWatches_75 ?_
            refine lv_istore_n (lv' := [(3, .int (l3 + 1)), (0, .ref h0), (1, .int p1), (2, .int p2)]) hx hb dX10_laysWatches_76 rfl hl (by decide) rfl (fun ls hl => ?_)
            refine lv_iload_n hx hb dX10_laysWatches_77 rfl (lv_at hl 0 rfl) ?_
            refine lv_iload_n hx hb dX10_laysWatches_78 rfl (lv_at hl 2 rfl) ?_
            refine lv_icmp_ge (tgt := 9) hx hb dX10_laysWatches_79 (by decide) (fun cc1 => ?_) (fun cc1 => ?_)
            · have h := (if_pos cc1).symm.trans h
              exact hk9 A0_4 (l3 + 1) h _ _ _ hPD hS (lv_sub hl [1, 2, 3, 0] rfl)
            · have h := (if_neg cc1).symm.trans h
              refine lv_aload_n hx hb dX10_laysWatches_82 rfl (lv_at hl 1 rfl) ?_
              refine va_get (D := G.1) (ci := 10) (v := .ref (a0 48)) (C := RX10) (T := TX10) (N := 52) hx hb hts inlX10 hown hK hPD.1 0 rfl rfl 48 (by decide) (hts _ gw_797) (fun _ h9 => h9) rfl dX10_laysWatches_83 ?_
              refine lv_iload_n hx hb dX10_laysWatches_86 rfl (lv_at hl 0 rfl) ?_
              refine lv_iconst (v := (-1)) hx hb dX10_laysWatches_87 (by decide) ?_
              obtain ⟨hi_9, h⟩ := ob h
              refine va_iast hx hb hK hPD.1 hPD.2 hS 31 1 rfl rfl hi_9 dX10_laysWatches_88 (fun H locs hP hD hS => ?_)
              obtain ⟨A0_10, eA0_10, h⟩ := lvl h
              have hPD : WD G DA (wX10 G h0 a0 f0 A0_10) H := by rw [eA0_10]; exact ⟨hP, hD⟩
              clear eA0_10 hP hD
              refine lv_goto (tgt := 9) hx hb dX10_laysWatches_89 (by decide) ?_
              exact hk9 A0_10 (l3 + 1) h _ _ _ hPD hS (lv_sub hl [1, 2, 3, 0] rfl)
        · have h := (if_neg cc1).symm.trans h
          refine lv_iload_n hx hb dX10_laysWatches_58 rfl (lv_at hl 3 rfl) ?_
          refine lv_iconst (v := 1) hx hb dX10_laysWatches_59 (by decide) ?_
          refine lv_isub hx hb dX10_laysWatches_60 ?_
          refine lv_istore_n (lv' := [(3, .int (l3 - 1)), (0, .ref h0), (1, .int p1), (2, .int p2)]) hx hb dX10_laysWatches_61 rfl hl (by decide) rfl (fun ls hl => ?_)
          refine lv_goto (tgt := 9) hx hb dX10_laysWatches_62 (by decide) ?_
          exact hk9 A0_4 (l3 - 1) h _ _ _ hPD hS (lv_sub hl [1, 2, 3, 0] rfl)
set_option maxRecDepth 100000 in
set_option maxHeartbeats 4000000 in
theorem ww_f10_laysWatches_l9  (C0 : Cx cX10_laysWatches 4 (some .boolean) RX10 p s m args meth c G DA) {h0 : Nat} {a0 : Nat → Nat} {f0 : Nat → Int32} {p1 : Int32} {p2 : Int32}   {res : Int32 × (Nat → Nat → Int32)}  : ∀ (n : Nat) (A0 : Nat → Nat → Int32) (l3 : Int32), f10_laysWatches_l9 f0 p1 p2  n A0 l3 = some res → ∀ (H : Heap) (locs : List Loc) (ls : Array Slot), WD G DA (wX10 G h0 a0 f0 A0) H → va_S DA s.heap H locs → lv_has ls 4 [(0, .ref h0), (1, .int p1), (2, .int p2), (3, .int l3)] → W p l e rmX10_laysWatches s m args below meth c H locs 0 0 (MQ below (QI G DA res.1 (wX10 G h0 a0 f0 res.2)) args s 0 0 DA) (F0 m 9 ls []) := by
  intro n
  induction n with
  | zero => intro A0 l3 h; cases h
  | succ n ih => intro A0 l3 h; exact ww_f10_laysWatches_b9 C0  ih A0 l3 h
set_option maxRecDepth 100000 in
set_option maxHeartbeats 4000000 in
theorem kt_X10_laysWatches (l : Launch) (G : Gp) (h0 : Nat) (a0 : Nat → Nat) (f0 : Nat → Int32) (A0 : Nat → Nat → Int32) (p1 : Int32) (p2 : Int32) : ∀ {r : Int32 × (Nat → Nat → Int32)}, f10_laysWatches f0 A0 p1 p2 = some r → CtrI l yX10_laysWatches cX10_laysWatches 4 (some .boolean) rmX10_laysWatches G [.ref h0, .int p1, .int p2] (wX10 G h0 a0 f0 A0) r.1 (wX10 G h0 a0 f0 r.2) := by
  intro res h
  refine ctrI_of (cc := cX10_laysWatches) (maxL := 4) (ret := (some .boolean)) (by decide +kernel) rfl (Nat.le_of_ble_eq_true rfl) (fun p e s m below meth c DA C0 hP hD ls hl => ?_)
  have hPD : WD G DA (wX10 G h0 a0 f0 A0) s.heap := ⟨hP, hD⟩
  have hS : va_S DA s.heap s.heap [] := va_S.rf
  have hl : lv_has ls 4 [(0, .ref h0), (1, .int p1), (2, .int p2)] := hl
  obtain ⟨hx, hb, hml, hown, hts⟩ := C0.1
  have hK := C0.2.2.2.1
  unfold f10_laysWatches at h
  refine lv_iconst (v := 0) hx hb dX10_laysWatches_0 (by decide) ?_
  refine lv_istore_n (lv' := [(3, .int 0), (0, .ref h0), (1, .int p1), (2, .int p2)]) hx hb dX10_laysWatches_1 rfl hl (by decide) rfl (fun ls hl => ?_)
  refine lv_aload_n hx hb dX10_laysWatches_2 rfl (lv_at hl 1 rfl) ?_
  refine va_get (D := G.1) (ci := 10) (v := .ref (a0 48)) (C := RX10) (T := TX10) (N := 52) hx hb hts inlX10 hown hK hPD.1 0 rfl rfl 48 (by decide) (hts _ gw_797) (fun _ h9 => h9) rfl dX10_laysWatches_3 ?_
  refine lv_iconst (v := 0) hx hb dX10_laysWatches_6 (by decide) ?_
  refine lv_iconst (v := (-1)) hx hb dX10_laysWatches_7 (by decide) ?_
  refine va_iast hx hb hK hPD.1 hPD.2 hS 31 1 rfl rfl (vin rfl) dX10_laysWatches_8 (fun H locs hP hD hS => ?_)
  obtain ⟨A0_1, eA0_1, h⟩ := lvl h
  have hPD : WD G DA (wX10 G h0 a0 f0 A0_1) H := by rw [eA0_1]; exact ⟨hP, hD⟩
  clear eA0_1 hP hD
  exact ww_f10_laysWatches_l9 C0 NF A0_1 0 h _ _ _ hPD hS (lv_sub hl [1, 2, 3, 0] rfl)
end WALK
