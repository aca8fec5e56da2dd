section WALK
variable {p : Program} {l : Launch} {e : Env} {s : State} {m : MethodId} {args : Array Value} {below : List Frame} {meth : Method} {c : Code} {G : Gp} {DA : Nat → Prop}
abbrev rmX8_settle : Room := { frames := 1, cells := 0, slots := 0, locals := 22 }
set_option maxRecDepth 100000 in
set_option maxHeartbeats 4000000 in
theorem ww_f8_settle_b2  (C0 : Cx cX8_settle 4 none RX8 p s m args meth c G DA) {h0 : Nat} {a0 : Nat → Nat} {f0 : Nat → Int32}  {k2 : (Nat → Nat → Int32) → Int32 → Option ((Nat → Nat → Int32))} {res : (Nat → Nat → Int32)}  (hk2 : ∀ (A0 : Nat → Nat → Int32) (l1 : Int32), k2 A0 l1 = some res → ∀ (H : Heap) (locs : List Loc) (ls : Array Slot), WD G DA (wX8 G h0 a0 f0 A0) H → va_S DA s.heap H locs → lv_has ls 4 [(0, .ref h0), (1, .int l1)] → W p l e rmX8_settle s m args below meth c H locs 0 0 (MQ below (QV G DA (wX8 G h0 a0 f0 res)) args s 0 0 DA) (F0 m 2 ls [])) : ∀ (A0 : Nat → Nat → Int32) (l1 : Int32), f8_settle_b2 f0  k2 A0 l1 = some res → ∀ (H : Heap) (locs : List Loc) (ls : Array Slot), WD G DA (wX8 G h0 a0 f0 A0) H → va_S DA s.heap H locs → lv_has ls 4 [(0, .ref h0), (1, .int l1)] → W p l e rmX8_settle s m args below meth c H locs 0 0 (MQ below (QV G DA (wX8 G h0 a0 f0 res)) args s 0 0 DA) (F0 m 2 ls []) := by
  obtain ⟨hx, hb, hml, hown, hts⟩ := C0.1
  have hK := C0.2.2.2.1
  intro A0 l1 h _ _ _ hPD hS hl
  unfold f8_settle_b2 at h
  refine lv_iload_n hx hb dX8_settle_2 rfl (lv_at hl 1 rfl) ?_
  refine lv_aload_n hx hb dX8_settle_3 rfl (lv_at hl 0 rfl) ?_
  refine va_get (D := G.1) (ci := 8) (v := .int (f0 2)) (C := RX8) (T := TX8) (N := 3) hx hb hts inlX8 hown hK hPD.1 0 rfl rfl 2 (by decide) (hts _ gw_334) (fun _ h9 => h9) rfl dX8_settle_4 ?_
  refine lv_icmp_ge (tgt := 51) hx hb dX8_settle_7 (by decide) (fun cc1 => ?_) (fun cc1 => ?_)
  · have h := (if_pos cc1).symm.trans h
    obtain rfl := Option.some.inj h
    exact eV C0 hPD.1 hPD.2 hS dX8_settle_51
  · have h := (if_neg cc1).symm.trans h
    refine lv_aload_n hx hb dX8_settle_10 rfl (lv_at hl 0 rfl) ?_
    refine va_get (D := G.1) (ci := 8) (v := .ref (a0 1)) (C := RX8) (T := TX8) (N := 3) hx hb hts inlX8 hown hK hPD.1 0 rfl rfl 1 (by decide) (hts _ gw_333) (fun _ h9 => h9) rfl dX8_settle_11 ?_
    refine lv_iload_n hx hb dX8_settle_14 rfl (lv_at hl 1 rfl) ?_
    refine kNI (As := [.ref (a0 1), .int l1]) (rest := []) C0 (kt_X9_at l G (a0 1) 16384 (A0 1) l1 (by decide)) gi_U_X9_at (host := "IdleCrimes") (index := 34) (List.mem_of_getElem? (i := 35) rfl) gw_6 gw_7 (n := 2) rfl (by decide +kernel) ⟨rfl, rfl, Nat.le_of_ble_eq_true rfl, Nat.le_of_ble_eq_true rfl⟩ hPD hS [2] [0, 1] [0, 1, 2] (wr := pick (wX8 G h0 a0 f0 A0) [0, 1]) (wN := (wX8 G h0 a0 f0 A0)) rfl rfl rfl rfl rfl hl.1 (Nat.le_of_ble_eq_true rfl) dX8_settle_15 (fun H locs hPD hS => ?_)
    refine lv_istore_n (lv' := [(2, .int (f9_at 16384 (A0 1) l1)), (0, .ref h0), (1, .int l1)]) hx hb dX8_settle_18 rfl hl (by decide) rfl (fun ls hl => ?_)
    refine lv_aload_n hx hb dX8_settle_19 rfl (lv_at hl 1 rfl) ?_
    refine va_get (D := G.1) (ci := 8) (v := .ref (a0 0)) (C := RX8) (T := TX8) (N := 3) hx hb hts inlX8 hown hK hPD.1 0 rfl rfl 0 (by decide) (hts _ gw_332) (fun _ h9 => h9) rfl dX8_settle_20 ?_
    refine lv_iload_n hx hb dX8_settle_23 rfl (lv_at hl 0 rfl) ?_
    refine kNI (As := [.ref (a0 0), .int (f9_at 16384 (A0 1) l1)]) (rest := []) C0 (kt_X9_at l G (a0 0) 65536 (A0 0) (f9_at 16384 (A0 1) l1) (by decide)) gi_U_X9_at (host := "IdleCrimes") (index := 34) (List.mem_of_getElem? (i := 35) rfl) gw_6 gw_7 (n := 2) rfl (by decide +kernel) ⟨rfl, rfl, Nat.le_of_ble_eq_true rfl, Nat.le_of_ble_eq_true rfl⟩ hPD hS [1] [0, 2] [0, 2, 1] (wr := pick (wX8 G h0 a0 f0 A0) [0, 2]) (wN := (wX8 G h0 a0 f0 A0)) rfl rfl rfl rfl rfl hl.1 (Nat.le_of_ble_eq_true rfl) dX8_settle_24 (fun H locs hPD hS => ?_)
    refine lv_istore_n (lv' := [(3, .int (f9_at 65536 (A0 0) (f9_at 16384 (A0 1) l1))), (2, .int (f9_at 16384 (A0 1) l1)), (0, .ref h0), (1, .int l1)]) hx hb dX8_settle_27 rfl hl (by decide) rfl (fun ls hl => ?_)
    refine lv_aload_n hx hb dX8_settle_28 rfl (lv_at hl 2 rfl) ?_
    refine va_get (D := G.1) (ci := 8) (v := .ref (a0 0)) (C := RX8) (T := TX8) (N := 3) hx hb hts inlX8 hown hK hPD.1 0 rfl rfl 0 (by decide) (hts _ gw_332) (fun _ h9 => h9) rfl dX8_settle_29 ?_
    refine lv_iload_n hx hb dX8_settle_32 rfl (lv_at hl 1 rfl) ?_
    refine lv_iload_n hx hb dX8_settle_33 rfl (lv_at hl 0 rfl) ?_
    refine lv_iload_n hx hb dX8_settle_34 rfl (lv_at hl 0 rfl) ?_
    refine lv_bipush (v := 16) hx hb dX8_settle_35 (by decide) ?_
    refine lv_iushr (v := ushr (f9_at 65536 (A0 0) (f9_at 16384 (A0 1) l1)) 16) hx hb dX8_settle_37 rfl ?_
    refine lv_ior hx hb dX8_settle_38 ?_
    refine lv_ldc (v := 65535) hx hb hown (hts _ gw_335) dX8_settle_39 ?_
    refine lv_iand hx hb dX8_settle_41 ?_
    obtain ⟨z_1, ez_1, h⟩ := lvl h
    have kc := kt_X9_put l G (a0 0) 65536 (A0 0) (f9_at 16384 (A0 1) l1) (((f9_at 65536 (A0 0) (f9_at 16384 (A0 1) l1)) ||| (ushr (f9_at 65536 (A0 0) (f9_at 16384 (A0 1) l1)) 16)) &&& 65535) (by decide)
    rw [← ez_1] at kc
    clear ez_1
    refine kNV (As := [.ref (a0 0), .int (f9_at 16384 (A0 1) l1), .int (((f9_at 65536 (A0 0) (f9_at 16384 (A0 1) l1)) ||| (ushr (f9_at 65536 (A0 0) (f9_at 16384 (A0 1) l1)) 16)) &&& 65535)]) (rest := []) C0 (kc) gi_U_X9_put (host := "IdleCrimes") (index := 47) (List.mem_of_getElem? (i := 36) rfl) gw_6 gw_19 (n := 3) rfl (by decide +kernel) ⟨rfl, rfl, Nat.le_of_ble_eq_true rfl, Nat.le_of_ble_eq_true rfl⟩ hPD hS [1] [0, 2] [0, 2, 1] (wr := pick (wX8 G h0 a0 f0 A0) [0, 2]) (wN := (wX8 G h0 a0 f0 (updA A0 0 z_1))) rfl rfl rfl rfl rfl hl.1 (Nat.le_of_ble_eq_true rfl) dX8_settle_42 (fun H locs hPD hS => ?_)
    obtain ⟨A0_2, eA0_2, h⟩ := lvl h
    have hPD : WD G DA (wX8 G h0 a0 f0 A0_2) H := by rw [eA0_2]; exact hPD
    clear eA0_2
    refine lv_iinc (v := l1 + 1) (lv' := [(1, .int (l1 + 1)), (3, .int (f9_at 65536 (A0 0) (f9_at 16384 (A0 1) l1))), (2, .int (f9_at 16384 (A0 1) l1)), (0, .ref h0)]) hx hb dX8_settle_45 hl (k := 3) rfl rfl (by decide) rfl (fun ls hl => ?_)
    refine lv_goto (tgt := 2) hx hb dX8_settle_48 (by decide) ?_
    exact hk2 A0_2 (l1 + 1) h _ _ _ hPD hS (lv_sub hl [3, 0] rfl)
set_option maxRecDepth 100000 in
set_option maxHeartbeats 4000000 in
theorem ww_f8_settle_l2  (C0 : Cx cX8_settle 4 none RX8 p s m args meth c G DA) {h0 : Nat} {a0 : Nat → Nat} {f0 : Nat → Int32}   {res : (Nat → Nat → Int32)}  : ∀ (n : Nat) (A0 : Nat → Nat → Int32) (l1 : Int32), f8_settle_l2 f0  n A0 l1 = some res → ∀ (H : Heap) (locs : List Loc) (ls : Array Slot), WD G DA (wX8 G h0 a0 f0 A0) H → va_S DA s.heap H locs → lv_has ls 4 [(0, .ref h0), (1, .int l1)] → W p l e rmX8_settle s m args below meth c H locs 0 0 (MQ below (QV G DA (wX8 G h0 a0 f0 res)) args s 0 0 DA) (F0 m 2 ls []) := by
  intro n
  induction n with
  | zero => intro A0 l1 h; cases h
  | succ n ih => intro A0 l1 h; exact ww_f8_settle_b2 C0  ih A0 l1 h
set_option maxRecDepth 100000 in
set_option maxHeartbeats 4000000 in
theorem kt_X8_settle (l : Launch) (G : Gp) (h0 : Nat) (a0 : Nat → Nat) (f0 : Nat → Int32) (A0 : Nat → Nat → Int32) : ∀ {r : (Nat → Nat → Int32)}, f8_settle f0 A0 = some r → CtrV l yX8_settle cX8_settle 4 none rmX8_settle G [.ref h0] (wX8 G h0 a0 f0 A0) (wX8 G h0 a0 f0 r) := by
  intro res h
  refine ctrV_of (cc := cX8_settle) (maxL := 4) (ret := none) (by decide +kernel) rfl (Nat.le_of_ble_eq_true rfl) (fun p e s m below meth c DA C0 hP hD ls hl => ?_)
  have hPD : WD G DA (wX8 G h0 a0 f0 A0) s.heap := ⟨hP, hD⟩
  have hS : va_S DA s.heap s.heap [] := va_S.rf
  have hl : lv_has ls 4 [(0, .ref h0)] := hl
  obtain ⟨hx, hb, hml, hown, hts⟩ := C0.1
  have hK := C0.2.2.2.1
  unfold f8_settle at h
  refine lv_iconst (v := 0) hx hb dX8_settle_0 (by decide) ?_
  refine lv_istore_n (lv' := [(1, .int 0), (0, .ref h0)]) hx hb dX8_settle_1 rfl hl (by decide) rfl (fun ls hl => ?_)
  exact ww_f8_settle_l2 C0 NF A0 0 h _ _ _ hPD hS (lv_sub hl [1, 0] rfl)
abbrev rmX8_goOn : Room := { frames := 3, cells := 0, slots := 0, locals := 66 }
set_option maxRecDepth 100000 in
set_option maxHeartbeats 4000000 in
theorem ww_f8_goOn_b43  (C0 : Cx cX8_goOn 7 none RX8 p s m args meth c G DA) {h0 : Nat} {a0 : Nat → Nat} {h1 : Nat} {a1 : Nat → Nat} {f1 : Nat → Int32} {A1 : Nat → Nat → Int32}  {k7 : (Nat → Nat → Int32) → (Nat → Int32) → Int32 → Int32 → Option ((Nat → Nat → Int32) × (Nat → Int32))} {k43 : (Nat → Nat → Int32) → (Nat → Int32) → Int32 → Int32 → Int32 → Int32 → Int32 → Option ((Nat → Nat → Int32) × (Nat → Int32))} {res : (Nat → Nat → Int32) × (Nat → Int32)} (hk7 : ∀ (A0 : Nat → Nat → Int32) (f0 : Nat → Int32) (l2 : Int32) (l3 : Int32), k7 A0 f0 l2 l3 = some res → ∀ (H : Heap) (locs : List Loc) (ls : Array Slot), WD G DA (wX8 G h0 a0 f0 A0 ++ (wX1 G h1 a1 f1 A1)) H → va_S DA s.heap H locs → lv_has ls 7 [(0, .ref h0), (1, .ref h1), (2, .int l2), (3, .int l3)] → W p l e rmX8_goOn s m args below meth c H locs 0 0 (MQ below (QV G DA (wX8 G h0 a0 res.2 res.1 ++ (wX1 G h1 a1 f1 A1))) args s 0 0 DA) (F0 m 7 ls [])) (hk43 : ∀ (A0 : Nat → Nat → Int32) (f0 : Nat → Int32) (l2 : Int32) (l3 : Int32) (l4 : Int32) (l5 : Int32) (l6 : Int32), k43 A0 f0 l2 l3 l4 l5 l6 = some res → ∀ (H : Heap) (locs : List Loc) (ls : Array Slot), WD G DA (wX8 G h0 a0 f0 A0 ++ (wX1 G h1 a1 f1 A1)) H → va_S DA s.heap H locs → lv_has ls 7 [(0, .ref h0), (1, .ref h1), (2, .int l2), (3, .int l3), (4, .int l4), (5, .int l5), (6, .int l6)] → W p l e rmX8_goOn s m args below meth c H locs 0 0 (MQ below (QV G DA (wX8 G h0 a0 res.2 res.1 ++ (wX1 G h1 a1 f1 A1))) args s 0 0 DA) (F0 m 43 ls [])) : ∀ (A0 : Nat → Nat → Int32) (f0 : Nat → Int32) (l2 : Int32) (l3 : Int32) (l4 : Int32) (l5 : Int32) (l6 : Int32), f8_goOn_b43 f1 A1 k7 k43 A0 f0 l2 l3 l4 l5 l6 = some res → ∀ (H : Heap) (locs : List Loc) (ls : Array Slot), WD G DA (wX8 G h0 a0 f0 A0 ++ (wX1 G h1 a1 f1 A1)) H → va_S DA s.heap H locs → lv_has ls 7 [(0, .ref h0), (1, .ref h1), (2, .int l2), (3, .int l3), (4, .int l4), (5, .int l5), (6, .int l6)] → W p l e rmX8_goOn s m args below meth c H locs 0 0 (MQ below (QV G DA (wX8 G h0 a0 res.2 res.1 ++ (wX1 G h1 a1 f1 A1))) args s 0 0 DA) (F0 m 43 ls []) := by
  obtain ⟨hx, hb, hml, hown, hts⟩ := C0.1
  have hK := C0.2.2.2.1
  intro A0 f0 l2 l3 l4 l5 l6 h _ _ _ hPD hS hl
  unfold f8_goOn_b43 at h
  refine lv_iload hx hb dX8_goOn_43 (lv_at hl 6 rfl) ?_
  refine lv_bipush (v := 16) hx hb dX8_goOn_45 (by decide) ?_
  refine lv_icmp_ge (tgt := 81) hx hb dX8_goOn_47 (by decide) (fun cc1 => ?_) (fun cc1 => ?_)
  · have h := (if_pos cc1).symm.trans h
    refine lv_iinc (v := l3 + 1) (lv' := [(3, .int (l3 + 1)), (0, .ref h0), (1, .ref h1), (2, .int l2), (4, .int l4), (5, .int l5), (6, .int l6)]) hx hb dX8_goOn_81 hl (k := 3) rfl rfl (by decide) rfl (fun ls hl => ?_)
    refine lv_goto (tgt := 7) hx hb dX8_goOn_84 (by decide) ?_
    exact hk7 A0 f0 l2 (l3 + 1) h _ _ _ hPD hS (lv_sub hl [1, 2, 3, 0] rfl)
  · have h := (if_neg cc1).symm.trans h
    refine lv_iload hx hb dX8_goOn_50 (lv_at hl 5 rfl) ?_
    refine lv_iload hx hb dX8_goOn_52 (lv_at hl 6 rfl) ?_
    refine kNI (As := [.int l5, .int l6]) (rest := []) C0 (kt_X9_has l G  l5 l6) gi_U_X9_has (host := "IdleCrimes") (index := 55) (List.mem_of_getElem? (i := 37) rfl) gw_6 gw_74 (n := 2) rfl (by decide +kernel) ⟨rfl, rfl, Nat.le_of_ble_eq_true rfl, Nat.le_of_ble_eq_true rfl⟩ hPD hS [] [0, 1, 2, 3, 4, 5, 6] [0, 1, 2, 3, 4, 5, 6] (wr := (wX8 G h0 a0 f0 A0 ++ (wX1 G h1 a1 f1 A1))) (wN := (wX8 G h0 a0 f0 A0 ++ (wX1 G h1 a1 f1 A1))) rfl rfl rfl rfl rfl hl.1 (Nat.le_of_ble_eq_true rfl) dX8_goOn_54 (fun H locs hPD hS => ?_)
    refine lv_if_eq (tgt := 75) hx hb dX8_goOn_57 (by decide) (fun cc1 => ?_) (fun cc1 => ?_)
    · have h := (if_pos cc1).symm.trans h
      refine lv_iinc (v := l6 + 1) (lv' := [(6, .int (l6 + 1)), (0, .ref h0), (1, .ref h1), (2, .int l2), (3, .int l3), (4, .int l4), (5, .int l5)]) hx hb dX8_goOn_75 hl (k := 6) rfl rfl (by decide) rfl (fun ls hl => ?_)
      refine lv_goto (tgt := 43) hx hb dX8_goOn_78 (by decide) ?_
      exact hk43 A0 f0 l2 l3 l4 l5 (l6 + 1) h _ _ _ hPD hS (lv_sub hl [1, 2, 3, 4, 5, 6, 0] rfl)
    · have h := (if_neg cc1).symm.trans h
      refine lv_aload_n hx hb dX8_goOn_60 rfl (lv_at hl 0 rfl) ?_
      refine lv_iload hx hb dX8_goOn_61 (lv_at hl 4 rfl) ?_
      refine lv_iconst (v := 1) hx hb dX8_goOn_63 (by decide) ?_
      refine lv_iload hx hb dX8_goOn_64 (lv_at hl 6 rfl) ?_
      refine lv_ishl hx hb dX8_goOn_66 ?_
      refine lv_ior hx hb dX8_goOn_67 ?_
      refine lv_iconst (v := 1) hx hb dX8_goOn_68 (by decide) ?_
      refine lv_iload hx hb dX8_goOn_69 (lv_at hl 6 rfl) ?_
      refine lv_ishl hx hb dX8_goOn_71 ?_
      obtain ⟨q_2, hq_2, h⟩ := ob2 h
      refine kVV (As := [.int (l4 ||| (shl 1 l6)), .int (shl 1 l6)]) (rest := []) C0 (kt_X8_add l G h0 a0 f0 A0 (l4 ||| (shl 1 l6)) (shl 1 l6) hq_2) gi_V_X8_23_X8_add (n := 2) rfl (by decide +kernel) rfl ⟨rfl, rfl, Nat.le_of_ble_eq_true rfl, Nat.le_of_ble_eq_true rfl⟩ hPD hS 0 8 rfl rfl rfl [0, 1, 2] [3, 4, 5, 6] [4, 5, 6, 0, 1, 2, 3] (wr := (wX1 G h1 a1 f1 A1)) (wN := (wX8 G h0 a0 q_2.2 q_2.1 ++ (wX1 G h1 a1 f1 A1))) rfl rfl rfl rfl rfl hl.1 (Nat.le_of_ble_eq_true rfl) dX8_goOn_72 (fun H locs hPD hS => ?_)
      refine lv_iinc (v := l6 + 1) (lv' := [(6, .int (l6 + 1)), (0, .ref h0), (1, .ref h1), (2, .int l2), (3, .int l3), (4, .int l4), (5, .int l5)]) hx hb dX8_goOn_75 hl (k := 6) rfl rfl (by decide) rfl (fun ls hl => ?_)
      refine lv_goto (tgt := 43) hx hb dX8_goOn_78 (by decide) ?_
      exact hk43 q_2.1 q_2.2 l2 l3 l4 l5 (l6 + 1) h _ _ _ hPD hS (lv_sub hl [1, 2, 3, 4, 5, 6, 0] rfl)
set_option maxRecDepth 100000 in
set_option maxHeartbeats 4000000 in
theorem ww_f8_goOn_l43  (C0 : Cx cX8_goOn 7 none RX8 p s m args meth c G DA) {h0 : Nat} {a0 : Nat → Nat} {h1 : Nat} {a1 : Nat → Nat} {f1 : Nat → Int32} {A1 : Nat → Nat → Int32}  {k7 : (Nat → Nat → Int32) → (Nat → Int32) → Int32 → Int32 → Option ((Nat → Nat → Int32) × (Nat → Int32))} {res : (Nat → Nat → Int32) × (Nat → Int32)} (hk7 : ∀ (A0 : Nat → Nat → Int32) (f0 : Nat → Int32) (l2 : Int32) (l3 : Int32), k7 A0 f0 l2 l3 = some res → ∀ (H : Heap) (locs : List Loc) (ls : Array Slot), WD G DA (wX8 G h0 a0 f0 A0 ++ (wX1 G h1 a1 f1 A1)) H → va_S DA s.heap H locs → lv_has ls 7 [(0, .ref h0), (1, .ref h1), (2, .int l2), (3, .int l3)] → W p l e rmX8_goOn s m args below meth c H locs 0 0 (MQ below (QV G DA (wX8 G h0 a0 res.2 res.1 ++ (wX1 G h1 a1 f1 A1))) args s 0 0 DA) (F0 m 7 ls [])) : ∀ (n : Nat) (A0 : Nat → Nat → Int32) (f0 : Nat → Int32) (l2 : Int32) (l3 : Int32) (l4 : Int32) (l5 : Int32) (l6 : Int32), f8_goOn_l43 f1 A1 k7 n A0 f0 l2 l3 l4 l5 l6 = some res → ∀ (H : Heap) (locs : List Loc) (ls : Array Slot), WD G DA (wX8 G h0 a0 f0 A0 ++ (wX1 G h1 a1 f1 A1)) H → va_S DA s.heap H locs → lv_has ls 7 [(0, .ref h0), (1, .ref h1), (2, .int l2), (3, .int l3), (4, .int l4), (5, .int l5), (6, .int l6)] → W p l e rmX8_goOn s m args below meth c H locs 0 0 (MQ below (QV G DA (wX8 G h0 a0 res.2 res.1 ++ (wX1 G h1 a1 f1 A1))) args s 0 0 DA) (F0 m 43 ls []) := by
  intro n
  induction n with
  | zero => intro A0 f0 l2 l3 l4 l5 l6 h; cases h
  | succ n ih => intro A0 f0 l2 l3 l4 l5 l6 h; exact ww_f8_goOn_b43 C0 hk7 ih A0 f0 l2 l3 l4 l5 l6 h
set_option maxRecDepth 100000 in
set_option maxHeartbeats 4000000 in
theorem ww_f8_goOn_b7  (C0 : Cx cX8_goOn 7 none RX8 p s m args meth c G DA) {h0 : Nat} {a0 : Nat → Nat} {h1 : Nat} {a1 : Nat → Nat} {f1 : Nat → Int32} {A1 : Nat → Nat → Int32}  {k7 : (Nat → Nat → Int32) → (Nat → Int32) → Int32 → Int32 → Option ((Nat → Nat → Int32) × (Nat → Int32))} {res : (Nat → Nat → Int32) × (Nat → Int32)}  (hk7 : ∀ (A0 : Nat → Nat → Int32) (f0 : Nat → Int32) (l2 : Int32) (l3 : Int32), k7 A0 f0 l2 l3 = some res → ∀ (H : Heap) (locs : List Loc) (ls : Array Slot), WD G DA (wX8 G h0 a0 f0 A0 ++ (wX1 G h1 a1 f1 A1)) H → va_S DA s.heap H locs → lv_has ls 7 [(0, .ref h0), (1, .ref h1), (2, .int l2), (3, .int l3)] → W p l e rmX8_goOn s m args below meth c H locs 0 0 (MQ below (QV G DA (wX8 G h0 a0 res.2 res.1 ++ (wX1 G h1 a1 f1 A1))) args s 0 0 DA) (F0 m 7 ls [])) : ∀ (A0 : Nat → Nat → Int32) (f0 : Nat → Int32) (l2 : Int32) (l3 : Int32), f8_goOn_b7 f1 A1  k7 A0 f0 l2 l3 = some res → ∀ (H : Heap) (locs : List Loc) (ls : Array Slot), WD G DA (wX8 G h0 a0 f0 A0 ++ (wX1 G h1 a1 f1 A1)) H → va_S DA s.heap H locs → lv_has ls 7 [(0, .ref h0), (1, .ref h1), (2, .int l2), (3, .int l3)] → W p l e rmX8_goOn s m args below meth c H locs 0 0 (MQ below (QV G DA (wX8 G h0 a0 res.2 res.1 ++ (wX1 G h1 a1 f1 A1))) args s 0 0 DA) (F0 m 7 ls []) := by
  obtain ⟨hx, hb, hml, hown, hts⟩ := C0.1
  have hK := C0.2.2.2.1
  intro A0 f0 l2 l3 h _ _ _ hPD hS hl
  unfold f8_goOn_b7 at h
  refine lv_iload_n hx hb dX8_goOn_7 rfl (lv_at hl 3 rfl) ?_
  refine lv_iload_n hx hb dX8_goOn_8 rfl (lv_at hl 2 rfl) ?_
  refine lv_icmp_ge (tgt := 87) hx hb dX8_goOn_9 (by decide) (fun cc1 => ?_) (fun cc1 => ?_)
  · have h := (if_pos cc1).symm.trans h
    obtain rfl := Option.some.inj h
    exact eV C0 hPD.1 hPD.2 hS dX8_goOn_87
  · have h := (if_neg cc1).symm.trans h
    refine lv_aload_n hx hb dX8_goOn_12 rfl (lv_at hl 0 rfl) ?_
    refine va_get (D := G.1) (ci := 8) (v := .ref (a0 1)) (C := RX8) (T := TX8) (N := 3) hx hb hts inlX8 hown hK hPD.1 0 rfl rfl 1 (by decide) (hts _ gw_333) (fun _ h9 => h9) rfl dX8_goOn_13 ?_
    refine lv_iload_n hx hb dX8_goOn_16 rfl (lv_at hl 3 rfl) ?_
    refine kNI (As := [.ref (a0 1), .int l3]) (rest := []) C0 (kt_X9_at l G (a0 1) 16384 (A0 1) l3 (by decide)) gi_U_X9_at (host := "IdleCrimes") (index := 34) (List.mem_of_getElem? (i := 35) rfl) gw_6 gw_7 (n := 2) rfl (by decide +kernel) ⟨rfl, rfl, Nat.le_of_ble_eq_true rfl, Nat.le_of_ble_eq_true rfl⟩ hPD hS [2] [0, 1, 3, 4, 5, 6] [0, 1, 6, 2, 3, 4, 5] (wr := pick (wX8 G h0 a0 f0 A0 ++ (wX1 G h1 a1 f1 A1)) [0, 1, 3, 4, 5, 6]) (wN := (wX8 G h0 a0 f0 A0 ++ (wX1 G h1 a1 f1 A1))) rfl rfl rfl rfl rfl hl.1 (Nat.le_of_ble_eq_true rfl) dX8_goOn_17 (fun H locs hPD hS => ?_)
    refine lv_istore (lv' := [(4, .int (f9_at 16384 (A0 1) l3)), (0, .ref h0), (1, .ref h1), (2, .int l2), (3, .int l3)]) hx hb dX8_goOn_20 hl (by decide) rfl (fun ls hl => ?_)
    refine lv_aload_n hx hb dX8_goOn_22 rfl (lv_at hl 2 rfl) ?_
    refine lv_aload_n hx hb dX8_goOn_23 rfl (lv_at hl 1 rfl) ?_
    refine va_get (D := G.1) (ci := 8) (v := .ref (a0 0)) (C := RX8) (T := TX8) (N := 3) hx hb hts inlX8 hown hK hPD.1 0 rfl rfl 0 (by decide) (hts _ gw_332) (fun _ h9 => h9) rfl dX8_goOn_24 ?_
    refine lv_iload hx hb dX8_goOn_27 (lv_at hl 0 rfl) ?_
    refine kNI (As := [.ref (a0 0), .int (f9_at 16384 (A0 1) l3)]) (rest := [.ref h1]) C0 (kt_X9_at l G (a0 0) 65536 (A0 0) (f9_at 16384 (A0 1) l3) (by decide)) gi_U_X9_at (host := "IdleCrimes") (index := 34) (List.mem_of_getElem? (i := 35) rfl) gw_6 gw_7 (n := 2) rfl (by decide +kernel) ⟨rfl, rfl, Nat.le_of_ble_eq_true rfl, Nat.le_of_ble_eq_true rfl⟩ hPD hS [1] [0, 2, 3, 4, 5, 6] [0, 6, 1, 2, 3, 4, 5] (wr := pick (wX8 G h0 a0 f0 A0 ++ (wX1 G h1 a1 f1 A1)) [0, 2, 3, 4, 5, 6]) (wN := (wX8 G h0 a0 f0 A0 ++ (wX1 G h1 a1 f1 A1))) rfl rfl rfl rfl rfl hl.1 (Nat.le_of_ble_eq_true rfl) dX8_goOn_29 (fun H locs hPD hS => ?_)
    refine lv_ldc (v := 65535) hx hb hown (hts _ gw_335) dX8_goOn_32 ?_
    refine lv_iand hx hb dX8_goOn_34 ?_
    obtain ⟨q_1, hq_1, h⟩ := ob2 h
    refine kVI (As := [.int ((f9_at 65536 (A0 0) (f9_at 16384 (A0 1) l3)) &&& 65535)]) (rest := []) C0 (kt_X1_aroundAny l G h1 a1 f1 A1 ((f9_at 65536 (A0 0) (f9_at 16384 (A0 1) l3)) &&& 65535) hq_1) gi_V_X8_52_X1_aroundAny (n := 1) rfl (by decide +kernel) rfl ⟨rfl, rfl, Nat.le_of_ble_eq_true rfl, Nat.le_of_ble_eq_true rfl⟩ hPD hS 3 1 rfl rfl rfl [3, 4, 5, 6] [0, 1, 2] [0, 1, 2, 3, 4, 5, 6] (wr := (wX8 G h0 a0 f0 A0)) (wN := (wX8 G h0 a0 f0 A0 ++ (wX1 G h1 a1 f1 A1))) rfl rfl rfl rfl rfl hl.1 (Nat.le_of_ble_eq_true rfl) dX8_goOn_35 (fun H locs hPD hS => ?_)
    refine lv_istore (lv' := [(5, .int q_1), (4, .int (f9_at 16384 (A0 1) l3)), (0, .ref h0), (1, .ref h1), (2, .int l2), (3, .int l3)]) hx hb dX8_goOn_38 hl (by decide) rfl (fun ls hl => ?_)
    refine lv_iconst (v := 0) hx hb dX8_goOn_40 (by decide) ?_
    refine lv_istore (lv' := [(6, .int 0), (5, .int q_1), (4, .int (f9_at 16384 (A0 1) l3)), (0, .ref h0), (1, .ref h1), (2, .int l2), (3, .int l3)]) hx hb dX8_goOn_41 hl (by decide) rfl (fun ls hl => ?_)
    exact ww_f8_goOn_l43 C0 hk7 NF A0 f0 l2 l3 (f9_at 16384 (A0 1) l3) q_1 0 h _ _ _ hPD hS (lv_sub hl [3, 4, 5, 6, 2, 1, 0] rfl)
set_option maxRecDepth 100000 in
set_option maxHeartbeats 4000000 in
theorem ww_f8_goOn_l7  (C0 : Cx cX8_goOn 7 none RX8 p s m args meth c G DA) {h0 : Nat} {a0 : Nat → Nat} {h1 : Nat} {a1 : Nat → Nat} {f1 : Nat → Int32} {A1 : Nat → Nat → Int32}   {res : (Nat → Nat → Int32) × (Nat → Int32)}  : ∀ (n : Nat) (A0 : Nat → Nat → Int32) (f0 : Nat → Int32) (l2 : Int32) (l3 : Int32), f8_goOn_l7 f1 A1  n A0 f0 l2 l3 = some res → ∀ (H : Heap) (locs : List Loc) (ls : Array Slot), WD G DA (wX8 G h0 a0 f0 A0 ++ (wX1 G h1 a1 f1 A1)) H → va_S DA s.heap H locs → lv_has ls 7 [(0, .ref h0), (1, .ref h1), (2, .int l2), (3, .int l3)] → W p l e rmX8_goOn s m args below meth c H locs 0 0 (MQ below (QV G DA (wX8 G h0 a0 res.2 res.1 ++ (wX1 G h1 a1 f1 A1))) args s 0 0 DA) (F0 m 7 ls []) := by
  intro n
  induction n with
  | zero => intro A0 f0 l2 l3 h; cases h
  | succ n ih => intro A0 f0 l2 l3 h; exact ww_f8_goOn_b7 C0  ih A0 f0 l2 l3 h
set_option maxRecDepth 100000 in
set_option maxHeartbeats 4000000 in
theorem kt_X8_goOn (l : Launch) (G : Gp) (h0 : Nat) (a0 : Nat → Nat) (h1 : Nat) (a1 : Nat → Nat) (f0 : Nat → Int32) (A0 : Nat → Nat → Int32) (f1 : Nat → Int32) (A1 : Nat → Nat → Int32) : ∀ {r : (Nat → Nat → Int32) × (Nat → Int32)}, f8_goOn f0 A0 f1 A1 = some r → CtrV l yX8_goOn cX8_goOn 7 none rmX8_goOn G [.ref h0, .ref h1] (wX8 G h0 a0 f0 A0 ++ (wX1 G h1 a1 f1 A1)) (wX8 G h0 a0 r.2 r.1 ++ (wX1 G h1 a1 f1 A1)) := by
  intro res h
  refine ctrV_of (cc := cX8_goOn) (maxL := 7) (ret := none) (by decide +kernel) rfl (Nat.le_of_ble_eq_true rfl) (fun p e s m below meth c DA C0 hP hD ls hl => ?_)
  have hPD : WD G DA (wX8 G h0 a0 f0 A0 ++ (wX1 G h1 a1 f1 A1)) s.heap := ⟨hP, hD⟩
  have hS : va_S DA s.heap s.heap [] := va_S.rf
  have hl : lv_has ls 7 [(0, .ref h0), (1, .ref h1)] := hl
  obtain ⟨hx, hb, hml, hown, hts⟩ := C0.1
  have hK := C0.2.2.2.1
  unfold f8_goOn at h
  refine lv_aload_n hx hb dX8_goOn_0 rfl (lv_at hl 0 rfl) ?_
  refine va_get (D := G.1) (ci := 8) (v := .int (f0 2)) (C := RX8) (T := TX8) (N := 3) hx hb hts inlX8 hown hK hPD.1 0 rfl rfl 2 (by decide) (hts _ gw_334) (fun _ h9 => h9) rfl dX8_goOn_1 ?_
  refine lv_istore_n (lv' := [(2, .int (f0 2)), (0, .ref h0), (1, .ref h1)]) hx hb dX8_goOn_4 rfl hl (by decide) rfl (fun ls hl => ?_)
  refine lv_iconst (v := 0) hx hb dX8_goOn_5 (by decide) ?_
  refine lv_istore_n (lv' := [(3, .int 0), (2, .int (f0 2)), (0, .ref h0), (1, .ref h1)]) hx hb dX8_goOn_6 rfl hl (by decide) rfl (fun ls hl => ?_)
  exact ww_f8_goOn_l7 C0 NF A0 f0 (f0 2) 0 h _ _ _ hPD hS (lv_sub hl [2, 3, 1, 0] rfl)
abbrev rmX8_best : Room := { frames := 4, cells := 0, slots := 0, locals := 92 }
set_option maxRecDepth 100000 in
set_option maxHeartbeats 4000000 in
theorem ww_f8_best_b157  (C0 : Cx cX8_best 11 (some .int) RX8 p s m args meth c G DA) {h0 : Nat} {a0 : Nat → Nat} {q1 : Nat} {h2 : Nat} {a2 : Nat → Nat} {n1 : Nat} {xs1 : Nat → Int32} {f2 : Nat → Int32} {A2 : Nat → Nat → Int32} {p1 : Int32} {p2 : Int32} (hn1 : n1 < 2147483648) {k60 : (Nat → Nat → Int32) → (Nat → Int32) → Int32 → Int32 → Int32 → Option (Int32 × (Nat → Nat → Int32) × (Nat → Int32))} {res : Int32 × (Nat → Nat → Int32) × (Nat → Int32)} (hk60 : ∀ (A0 : Nat → Nat → Int32) (f0 : Nat → Int32) (l5 : Int32) (l6 : Int32) (l7 : Int32), k60 A0 f0 l5 l6 l7 = some res → ∀ (H : Heap) (locs : List Loc) (ls : Array Slot), WD G DA (wX8 G h0 a0 f0 A0 ++ (wI G q1 n1 xs1 ++ (wX1 G h2 a2 f2 A2))) H → va_S DA s.heap H locs → lv_has ls 11 [(0, .ref h0), (1, .int p1), (2, .int p2), (3, .ref q1), (4, .ref h2), (5, .int l5), (6, .int l6), (7, .int l7)] → W p l e rmX8_best s m args below meth c H locs 0 0 (MQ below (QI G DA res.1 (wX8 G h0 a0 res.2.2 res.2.1 ++ (wI G q1 n1 xs1 ++ (wX1 G h2 a2 f2 A2)))) args s 0 0 DA) (F0 m 60 ls [])) : ∀ (A0 : Nat → Nat → Int32) (f0 : Nat → Int32) (l5 : Int32) (l6 : Int32) (l7 : Int32) (l8 : Int32), f8_best_b157 n1 xs1 f2 A2 p1 p2 k60 A0 f0 l5 l6 l7 l8 = some res → ∀ (H : Heap) (locs : List Loc) (ls : Array Slot), WD G DA (wX8 G h0 a0 f0 A0 ++ (wI G q1 n1 xs1 ++ (wX1 G h2 a2 f2 A2))) H → va_S DA s.heap H locs → lv_has ls 11 [(0, .ref h0), (1, .int p1), (2, .int p2), (3, .ref q1), (4, .ref h2), (5, .int l5), (6, .int l6), (7, .int l7), (8, .int l8)] → W p l e rmX8_best s m args below meth c H locs 0 0 (MQ below (QI G DA res.1 (wX8 G h0 a0 res.2.2 res.2.1 ++ (wI G q1 n1 xs1 ++ (wX1 G h2 a2 f2 A2)))) args s 0 0 DA) (F0 m 157 ls []) := by
  obtain ⟨hx, hb, hml, hown, hts⟩ := C0.1
  have hK := C0.2.2.2.1
  intro A0 f0 l5 l6 l7 l8 h _ _ _ hPD hS hl
  unfold f8_best_b157 at h
  refine lv_aload_n hx hb dX8_best_157 rfl (lv_at hl 0 rfl) ?_
  refine va_get (D := G.1) (ci := 8) (v := .ref (a0 0)) (C := RX8) (T := TX8) (N := 3) hx hb hts inlX8 hown hK hPD.1 0 rfl rfl 0 (by decide) (hts _ gw_332) (fun _ h9 => h9) rfl dX8_best_158 ?_
  refine lv_iload hx hb dX8_best_161 (lv_at hl 8 rfl) ?_
  refine lv_iconst (v := 0) hx hb dX8_best_163 (by decide) ?_
  obtain ⟨z_4, ez_4, h⟩ := lvl h
  have kc := kt_X9_put l G (a0 0) 65536 (A0 0) l8 0 (by decide)
  rw [← ez_4] at kc
  clear ez_4
  refine kNV (As := [.ref (a0 0), .int l8, .int 0]) (rest := []) C0 (kc) gi_U_X9_put (host := "IdleCrimes") (index := 47) (List.mem_of_getElem? (i := 36) rfl) gw_6 gw_19 (n := 3) rfl (by decide +kernel) ⟨rfl, rfl, Nat.le_of_ble_eq_true rfl, Nat.le_of_ble_eq_true rfl⟩ hPD hS [1] [0, 2, 3, 4, 5, 6, 7] [0, 7, 1, 2, 3, 4, 5, 6] (wr := pick (wX8 G h0 a0 f0 A0 ++ (wI G q1 n1 xs1 ++ (wX1 G h2 a2 f2 A2))) [0, 2, 3, 4, 5, 6, 7]) (wN := (wX8 G h0 a0 f0 (updA A0 0 z_4) ++ (wI G q1 n1 xs1 ++ (wX1 G h2 a2 f2 A2)))) rfl rfl rfl rfl rfl hl.1 (Nat.le_of_ble_eq_true rfl) dX8_best_164 (fun H locs hPD hS => ?_)
  obtain ⟨A0_5, eA0_5, h⟩ := lvl h
  have hPD : WD G DA (wX8 G h0 a0 f0 A0_5 ++ (wI G q1 n1 xs1 ++ (wX1 G h2 a2 f2 A2))) H := by rw [eA0_5]; exact hPD
  clear eA0_5
  refine lv_iinc (v := l7 + 1) (lv' := [(7, .int (l7 + 1)), (0, .ref h0), (1, .int p1), (2, .int p2), (3, .ref q1), (4, .ref h2), (5, .int l5), (6, .int l6), (8, .int l8)]) hx hb dX8_best_167 hl (k := 7) rfl rfl (by decide) rfl (fun ls hl => ?_)
  refine lv_goto (tgt := 60) hx hb dX8_best_170 (by decide) ?_
  exact hk60 A0_5 f0 l5 l6 (l7 + 1) h _ _ _ hPD hS (lv_sub hl [1, 2, 3, 4, 5, 6, 7, 0] rfl)
set_option maxRecDepth 100000 in
set_option maxHeartbeats 4000000 in
theorem ww_f8_best_b121  (C0 : Cx cX8_best 11 (some .int) RX8 p s m args meth c G DA) {h0 : Nat} {a0 : Nat → Nat} {q1 : Nat} {h2 : Nat} {a2 : Nat → Nat} {n1 : Nat} {xs1 : Nat → Int32} {f2 : Nat → Int32} {A2 : Nat → Nat → Int32} {p1 : Int32} {p2 : Int32} (hn1 : n1 < 2147483648) {k60 : (Nat → Nat → Int32) → (Nat → Int32) → Int32 → Int32 → Int32 → Option (Int32 × (Nat → Nat → Int32) × (Nat → Int32))} {res : Int32 × (Nat → Nat → Int32) × (Nat → Int32)} (hk60 : ∀ (A0 : Nat → Nat → Int32) (f0 : Nat → Int32) (l5 : Int32) (l6 : Int32) (l7 : Int32), k60 A0 f0 l5 l6 l7 = some res → ∀ (H : Heap) (locs : List Loc) (ls : Array Slot), WD G DA (wX8 G h0 a0 f0 A0 ++ (wI G q1 n1 xs1 ++ (wX1 G h2 a2 f2 A2))) H → va_S DA s.heap H locs → lv_has ls 11 [(0, .ref h0), (1, .int p1), (2, .int p2), (3, .ref q1), (4, .ref h2), (5, .int l5), (6, .int l6), (7, .int l7)] → W p l e rmX8_best s m args below meth c H locs 0 0 (MQ below (QI G DA res.1 (wX8 G h0 a0 res.2.2 res.2.1 ++ (wI G q1 n1 xs1 ++ (wX1 G h2 a2 f2 A2)))) args s 0 0 DA) (F0 m 60 ls [])) : ∀ (A0 : Nat → Nat → Int32) (f0 : Nat → Int32) (l5 : Int32) (l6 : Int32) (l7 : Int32) (l8 : Int32) (l9 : Int32) (s0 : Int32), f8_best_b121 n1 xs1 f2 A2 p1 p2 k60 A0 f0 l5 l6 l7 l8 l9 s0 = some res → ∀ (H : Heap) (locs : List Loc) (ls : Array Slot), WD G DA (wX8 G h0 a0 f0 A0 ++ (wI G q1 n1 xs1 ++ (wX1 G h2 a2 f2 A2))) H → va_S DA s.heap H locs → lv_has ls 11 [(0, .ref h0), (1, .int p1), (2, .int p2), (3, .ref q1), (4, .ref h2), (5, .int l5), (6, .int l6), (7, .int l7), (8, .int l8), (9, .int l9)] → W p l e rmX8_best s m args below meth c H locs 0 0 (MQ below (QI G DA res.1 (wX8 G h0 a0 res.2.2 res.2.1 ++ (wI G q1 n1 xs1 ++ (wX1 G h2 a2 f2 A2)))) args s 0 0 DA) (F0 m 121 ls [.int s0]) := by
  obtain ⟨hx, hb, hml, hown, hts⟩ := C0.1
  have hK := C0.2.2.2.1
  intro A0 f0 l5 l6 l7 l8 l9 s0 h _ _ _ hPD hS hl
  unfold f8_best_b121 at h
  refine lv_istore (lv' := [(10, .int s0), (0, .ref h0), (1, .int p1), (2, .int p2), (3, .ref q1), (4, .ref h2), (5, .int l5), (6, .int l6), (7, .int l7), (8, .int l8), (9, .int l9)]) hx hb dX8_best_121 hl (by decide) rfl (fun ls hl => ?_)
  refine lv_iload hx hb dX8_best_123 (lv_at hl 10 rfl) ?_
  refine lv_if_eq (tgt := 157) hx hb dX8_best_125 (by decide) (fun cc1 => ?_) (fun cc1 => ?_)
  · have h := (if_pos cc1).symm.trans h
    exact ww_f8_best_b157 C0 hn1 hk60 A0 f0 l5 l6 l7 l8 h _ _ _ hPD hS (lv_sub hl [1, 2, 3, 4, 5, 6, 7, 8, 9] rfl)
  · have h := (if_neg cc1).symm.trans h
    refine lv_iload hx hb dX8_best_128 (lv_at hl 0 rfl) ?_
    refine lv_iload hx hb dX8_best_130 (lv_at hl 7 rfl) ?_
    refine lv_icmp_gt (tgt := 149) hx hb dX8_best_132 (by decide) (fun cc1 => ?_) (fun cc1 => ?_)
    · have h := (if_pos cc1).symm.trans h
      refine lv_iload hx hb dX8_best_149 (lv_at hl 9 rfl) ?_
      refine lv_istore (lv' := [(5, .int l8), (10, .int s0), (0, .ref h0), (1, .int p1), (2, .int p2), (3, .ref q1), (4, .ref h2), (6, .int l6), (7, .int l7), (8, .int l8), (9, .int l9)]) hx hb dX8_best_151 hl (by decide) rfl (fun ls hl => ?_)
      refine lv_iload hx hb dX8_best_153 (lv_at hl 1 rfl) ?_
      refine lv_istore (lv' := [(6, .int s0), (5, .int l8), (10, .int s0), (0, .ref h0), (1, .int p1), (2, .int p2), (3, .ref q1), (4, .ref h2), (7, .int l7), (8, .int l8), (9, .int l9)]) hx hb dX8_best_155 hl (by decide) rfl (fun ls hl => ?_)
      exact ww_f8_best_b157 C0 hn1 hk60 A0 f0 l8 s0 l7 l8 h _ _ _ hPD hS (lv_sub hl [3, 4, 5, 6, 7, 1, 0, 8, 9] rfl)
    · have h := (if_neg cc1).symm.trans h
      refine lv_iload hx hb dX8_best_135 (lv_at hl 0 rfl) ?_
      refine lv_iload hx hb dX8_best_137 (lv_at hl 7 rfl) ?_
      refine lv_icmp_ne (tgt := 157) hx hb dX8_best_139 (by decide) (fun cc1 => ?_) (fun cc1 => ?_)
      · have h := (if_neg cc1).symm.trans h
        exact ww_f8_best_b157 C0 hn1 hk60 A0 f0 l5 l6 l7 l8 h _ _ _ hPD hS (lv_sub hl [1, 2, 3, 4, 5, 6, 7, 8, 9] rfl)
      · have h := (if_pos cc1).symm.trans h
        refine lv_iload hx hb dX8_best_142 (lv_at hl 9 rfl) ?_
        refine lv_iload hx hb dX8_best_144 (lv_at hl 6 rfl) ?_
        refine lv_icmp_ge (tgt := 157) hx hb dX8_best_146 (by decide) (fun cc1 => ?_) (fun cc1 => ?_)
        · have h := (if_pos cc1).symm.trans h
          exact ww_f8_best_b157 C0 hn1 hk60 A0 f0 l5 l6 l7 l8 h _ _ _ hPD hS (lv_sub hl [1, 2, 3, 4, 5, 6, 7, 8, 9] rfl)
        · have h := (if_neg cc1).symm.trans h
          refine lv_iload hx hb dX8_best_149 (lv_at hl 9 rfl) ?_
          refine lv_istore (lv' := [(5, .int l8), (10, .int s0), (0, .ref h0), (1, .int p1), (2, .int p2), (3, .ref q1), (4, .ref h2), (6, .int l6), (7, .int l7), (8, .int l8), (9, .int l9)]) hx hb dX8_best_151 hl (by decide) rfl (fun ls hl => ?_)
          refine lv_iload hx hb dX8_best_153 (lv_at hl 1 rfl) ?_
          refine lv_istore (lv' := [(6, .int s0), (5, .int l8), (10, .int s0), (0, .ref h0), (1, .int p1), (2, .int p2), (3, .ref q1), (4, .ref h2), (7, .int l7), (8, .int l8), (9, .int l9)]) hx hb dX8_best_155 hl (by decide) rfl (fun ls hl => ?_)
          exact ww_f8_best_b157 C0 hn1 hk60 A0 f0 l8 s0 l7 l8 h _ _ _ hPD hS (lv_sub hl [3, 4, 5, 6, 7, 1, 0, 8, 9] rfl)
set_option maxRecDepth 100000 in
set_option maxHeartbeats 4000000 in
theorem ww_f8_best_b104  (C0 : Cx cX8_best 11 (some .int) RX8 p s m args meth c G DA) {h0 : Nat} {a0 : Nat → Nat} {q1 : Nat} {h2 : Nat} {a2 : Nat → Nat} {n1 : Nat} {xs1 : Nat → Int32} {f2 : Nat → Int32} {A2 : Nat → Nat → Int32} {p1 : Int32} {p2 : Int32} (hn1 : n1 < 2147483648) {k60 : (Nat → Nat → Int32) → (Nat → Int32) → Int32 → Int32 → Int32 → Option (Int32 × (Nat → Nat → Int32) × (Nat → Int32))} {res : Int32 × (Nat → Nat → Int32) × (Nat → Int32)} (hk60 : ∀ (A0 : Nat → Nat → Int32) (f0 : Nat → Int32) (l5 : Int32) (l6 : Int32) (l7 : Int32), k60 A0 f0 l5 l6 l7 = some res → ∀ (H : Heap) (locs : List Loc) (ls : Array Slot), WD G DA (wX8 G h0 a0 f0 A0 ++ (wI G q1 n1 xs1 ++ (wX1 G h2 a2 f2 A2))) H → va_S DA s.heap H locs → lv_has ls 11 [(0, .ref h0), (1, .int p1), (2, .int p2), (3, .ref q1), (4, .ref h2), (5, .int l5), (6, .int l6), (7, .int l7)] → W p l e rmX8_best s m args below meth c H locs 0 0 (MQ below (QI G DA res.1 (wX8 G h0 a0 res.2.2 res.2.1 ++ (wI G q1 n1 xs1 ++ (wX1 G h2 a2 f2 A2)))) args s 0 0 DA) (F0 m 60 ls [])) : ∀ (A0 : Nat → Nat → Int32) (f0 : Nat → Int32) (l5 : Int32) (l6 : Int32) (l7 : Int32) (l8 : Int32) (s0 : Int32), f8_best_b104 n1 xs1 f2 A2 p1 p2 k60 A0 f0 l5 l6 l7 l8 s0 = some res → ∀ (H : Heap) (locs : List Loc) (ls : Array Slot), WD G DA (wX8 G h0 a0 f0 A0 ++ (wI G q1 n1 xs1 ++ (wX1 G h2 a2 f2 A2))) H → va_S DA s.heap H locs → lv_has ls 11 [(0, .ref h0), (1, .int p1), (2, .int p2), (3, .ref q1), (4, .ref h2), (5, .int l5), (6, .int l6), (7, .int l7), (8, .int l8)] → W p l e rmX8_best s m args below meth c H locs 0 0 (MQ below (QI G DA res.1 (wX8 G h0 a0 res.2.2 res.2.1 ++ (wI G q1 n1 xs1 ++ (wX1 G h2 a2 f2 A2)))) args s 0 0 DA) (F0 m 104 ls [.int s0]) := by
  obtain ⟨hx, hb, hml, hown, hts⟩ := C0.1
  have hK := C0.2.2.2.1
  intro A0 f0 l5 l6 l7 l8 s0 h _ _ _ hPD hS hl
  unfold f8_best_b104 at h
  refine lv_istore (lv' := [(9, .int s0), (0, .ref h0), (1, .int p1), (2, .int p2), (3, .ref q1), (4, .ref h2), (5, .int l5), (6, .int l6), (7, .int l7), (8, .int l8)]) hx hb dX8_best_104 hl (by decide) rfl (fun ls hl => ?_)
  refine lv_iload hx hb dX8_best_106 (lv_at hl 0 rfl) ?_
  refine lv_if_eq (tgt := 120) hx hb dX8_best_108 (by decide) (fun cc1 => ?_) (fun cc1 => ?_)
  · have h := (if_pos cc1).symm.trans h
    refine lv_iconst (v := (-1)) hx hb dX8_best_120 (by decide) ?_
    exact ww_f8_best_b121 C0 hn1 hk60 A0 f0 l5 l6 l7 l8 s0 (-1) h _ _ _ hPD hS (lv_sub hl [1, 2, 3, 4, 5, 6, 7, 8, 9, 0] rfl)
  · have h := (if_neg cc1).symm.trans h
    refine lv_aload_n hx hb dX8_best_111 rfl (lv_at hl 4 rfl) ?_
    refine lv_iload hx hb dX8_best_112 (lv_at hl 9 rfl) ?_
    obtain ⟨q_6, hq_6, h⟩ := ob2 h
    refine kNI (As := [.ref q1, .int l8]) (rest := []) C0 (kt_X9_sumOf l G q1 n1 xs1 l8 hn1 hq_6) gi_U_X9_sumOf (host := "IdleCrimes") (index := 44) (List.mem_of_getElem? (i := 38) rfl) gw_6 gw_280 (n := 2) rfl (by decide +kernel) ⟨rfl, rfl, Nat.le_of_ble_eq_true rfl, Nat.le_of_ble_eq_true rfl⟩ hPD hS [3] [0, 1, 2, 4, 5, 6, 7] [0, 1, 2, 7, 3, 4, 5, 6] (wr := pick (wX8 G h0 a0 f0 A0 ++ (wI G q1 n1 xs1 ++ (wX1 G h2 a2 f2 A2))) [0, 1, 2, 4, 5, 6, 7]) (wN := (wX8 G h0 a0 f0 A0 ++ (wI G q1 n1 xs1 ++ (wX1 G h2 a2 f2 A2)))) rfl rfl rfl rfl rfl hl.1 (Nat.le_of_ble_eq_true rfl) dX8_best_114 (fun H locs hPD hS => ?_)
    refine lv_goto (tgt := 121) hx hb dX8_best_117 (by decide) ?_
    exact ww_f8_best_b121 C0 hn1 hk60 A0 f0 l5 l6 l7 l8 s0 q_6 h _ _ _ hPD hS (lv_sub hl [1, 2, 3, 4, 5, 6, 7, 8, 9, 0] rfl)
set_option maxRecDepth 100000 in
set_option maxHeartbeats 4000000 in
theorem ww_f8_best_b60  (C0 : Cx cX8_best 11 (some .int) RX8 p s m args meth c G DA) {h0 : Nat} {a0 : Nat → Nat} {q1 : Nat} {h2 : Nat} {a2 : Nat → Nat} {n1 : Nat} {xs1 : Nat → Int32} {f2 : Nat → Int32} {A2 : Nat → Nat → Int32} {p1 : Int32} {p2 : Int32} (hn1 : n1 < 2147483648) {k60 : (Nat → Nat → Int32) → (Nat → Int32) → Int32 → Int32 → Int32 → Option (Int32 × (Nat → Nat → Int32) × (Nat → Int32))} {res : Int32 × (Nat → Nat → Int32) × (Nat → Int32)}  (hk60 : ∀ (A0 : Nat → Nat → Int32) (f0 : Nat → Int32) (l5 : Int32) (l6 : Int32) (l7 : Int32), k60 A0 f0 l5 l6 l7 = some res → ∀ (H : Heap) (locs : List Loc) (ls : Array Slot), WD G DA (wX8 G h0 a0 f0 A0 ++ (wI G q1 n1 xs1 ++ (wX1 G h2 a2 f2 A2))) H → va_S DA s.heap H locs → lv_has ls 11 [(0, .ref h0), (1, .int p1), (2, .int p2), (3, .ref q1), (4, .ref h2), (5, .int l5), (6, .int l6), (7, .int l7)] → W p l e rmX8_best s m args below meth c H locs 0 0 (MQ below (QI G DA res.1 (wX8 G h0 a0 res.2.2 res.2.1 ++ (wI G q1 n1 xs1 ++ (wX1 G h2 a2 f2 A2)))) args s 0 0 DA) (F0 m 60 ls [])) : ∀ (A0 : Nat → Nat → Int32) (f0 : Nat → Int32) (l5 : Int32) (l6 : Int32) (l7 : Int32), f8_best_b60 n1 xs1 f2 A2 p1 p2  k60 A0 f0 l5 l6 l7 = some res → ∀ (H : Heap) (locs : List Loc) (ls : Array Slot), WD G DA (wX8 G h0 a0 f0 A0 ++ (wI G q1 n1 xs1 ++ (wX1 G h2 a2 f2 A2))) H → va_S DA s.heap H locs → lv_has ls 11 [(0, .ref h0), (1, .int p1), (2, .int p2), (3, .ref q1), (4, .ref h2), (5, .int l5), (6, .int l6), (7, .int l7)] → W p l e rmX8_best s m args below meth c H locs 0 0 (MQ below (QI G DA res.1 (wX8 G h0 a0 res.2.2 res.2.1 ++ (wI G q1 n1 xs1 ++ (wX1 G h2 a2 f2 A2)))) args s 0 0 DA) (F0 m 60 ls []) := by
  obtain ⟨hx, hb, hml, hown, hts⟩ := C0.1
  have hK := C0.2.2.2.1
  intro A0 f0 l5 l6 l7 h _ _ _ hPD hS hl
  unfold f8_best_b60 at h
  refine lv_iload hx hb dX8_best_60 (lv_at hl 7 rfl) ?_
  refine lv_aload_n hx hb dX8_best_62 rfl (lv_at hl 0 rfl) ?_
  refine va_get (D := G.1) (ci := 8) (v := .int (f0 2)) (C := RX8) (T := TX8) (N := 3) hx hb hts inlX8 hown hK hPD.1 0 rfl rfl 2 (by decide) (hts _ gw_334) (fun _ h9 => h9) rfl dX8_best_63 ?_
  refine lv_icmp_ge (tgt := 173) hx hb dX8_best_66 (by decide) (fun cc1 => ?_) (fun cc1 => ?_)
  · have h := (if_pos cc1).symm.trans h
    refine lv_iload hx hb dX8_best_173 (lv_at hl 5 rfl) ?_
    obtain rfl := Option.some.inj h
    exact eI C0 hPD.1 hPD.2 hS rfl dX8_best_175
  · have h := (if_neg cc1).symm.trans h
    refine lv_aload_n hx hb dX8_best_69 rfl (lv_at hl 0 rfl) ?_
    refine va_get (D := G.1) (ci := 8) (v := .ref (a0 1)) (C := RX8) (T := TX8) (N := 3) hx hb hts inlX8 hown hK hPD.1 0 rfl rfl 1 (by decide) (hts _ gw_333) (fun _ h9 => h9) rfl dX8_best_70 ?_
    refine lv_iload hx hb dX8_best_73 (lv_at hl 7 rfl) ?_
    refine kNI (As := [.ref (a0 1), .int l7]) (rest := []) C0 (kt_X9_at l G (a0 1) 16384 (A0 1) l7 (by decide)) gi_U_X9_at (host := "IdleCrimes") (index := 34) (List.mem_of_getElem? (i := 35) rfl) gw_6 gw_7 (n := 2) rfl (by decide +kernel) ⟨rfl, rfl, Nat.le_of_ble_eq_true rfl, Nat.le_of_ble_eq_true rfl⟩ hPD hS [2] [0, 1, 3, 4, 5, 6, 7] [0, 1, 7, 2, 3, 4, 5, 6] (wr := pick (wX8 G h0 a0 f0 A0 ++ (wI G q1 n1 xs1 ++ (wX1 G h2 a2 f2 A2))) [0, 1, 3, 4, 5, 6, 7]) (wN := (wX8 G h0 a0 f0 A0 ++ (wI G q1 n1 xs1 ++ (wX1 G h2 a2 f2 A2)))) rfl rfl rfl rfl rfl hl.1 (Nat.le_of_ble_eq_true rfl) dX8_best_75 (fun H locs hPD hS => ?_)
    refine lv_istore (lv' := [(8, .int (f9_at 16384 (A0 1) l7)), (0, .ref h0), (1, .int p1), (2, .int p2), (3, .ref q1), (4, .ref h2), (5, .int l5), (6, .int l6), (7, .int l7)]) hx hb dX8_best_78 hl (by decide) rfl (fun ls hl => ?_)
    refine lv_aload_n hx hb dX8_best_80 rfl (lv_at hl 1 rfl) ?_
    refine va_get (D := G.1) (ci := 8) (v := .ref (a0 0)) (C := RX8) (T := TX8) (N := 3) hx hb hts inlX8 hown hK hPD.1 0 rfl rfl 0 (by decide) (hts _ gw_332) (fun _ h9 => h9) rfl dX8_best_81 ?_
    refine lv_iload hx hb dX8_best_84 (lv_at hl 0 rfl) ?_
    refine kNI (As := [.ref (a0 0), .int (f9_at 16384 (A0 1) l7)]) (rest := []) C0 (kt_X9_at l G (a0 0) 65536 (A0 0) (f9_at 16384 (A0 1) l7) (by decide)) gi_U_X9_at (host := "IdleCrimes") (index := 34) (List.mem_of_getElem? (i := 35) rfl) gw_6 gw_7 (n := 2) rfl (by decide +kernel) ⟨rfl, rfl, Nat.le_of_ble_eq_true rfl, Nat.le_of_ble_eq_true rfl⟩ hPD hS [1] [0, 2, 3, 4, 5, 6, 7] [0, 7, 1, 2, 3, 4, 5, 6] (wr := pick (wX8 G h0 a0 f0 A0 ++ (wI G q1 n1 xs1 ++ (wX1 G h2 a2 f2 A2))) [0, 2, 3, 4, 5, 6, 7]) (wN := (wX8 G h0 a0 f0 A0 ++ (wI G q1 n1 xs1 ++ (wX1 G h2 a2 f2 A2)))) rfl rfl rfl rfl rfl hl.1 (Nat.le_of_ble_eq_true rfl) dX8_best_86 (fun H locs hPD hS => ?_)
    refine lv_aload hx hb dX8_best_89 (lv_at hl 5 rfl) ?_
    refine lv_iload_n hx hb dX8_best_91 rfl (lv_at hl 2 rfl) ?_
    refine kVI (As := [.int p1]) (rest := [.int (f9_at 65536 (A0 0) (f9_at 16384 (A0 1) l7))]) C0 (kt_X1_around l G h2 a2 f2 A2 p1) gi_V_X8_38_X1_around (n := 1) rfl (by decide +kernel) rfl ⟨rfl, rfl, Nat.le_of_ble_eq_true rfl, Nat.le_of_ble_eq_true rfl⟩ hPD hS 4 1 rfl rfl rfl [4, 5, 6, 7] [0, 1, 2, 3] [0, 1, 2, 3, 4, 5, 6, 7] (wr := (wX8 G h0 a0 f0 A0 ++ (wI G q1 n1 xs1))) (wN := (wX8 G h0 a0 f0 A0 ++ (wI G q1 n1 xs1 ++ (wX1 G h2 a2 f2 A2)))) rfl rfl rfl rfl rfl hl.1 (Nat.le_of_ble_eq_true rfl) dX8_best_92 (fun H locs hPD hS => ?_)
    refine lv_iand hx hb dX8_best_95 ?_
    refine lv_if_eq (tgt := 103) hx hb dX8_best_96 (by decide) (fun cc1 => ?_) (fun cc1 => ?_)
    · have h := (if_pos cc1).symm.trans h
      refine lv_iconst (v := 0) hx hb dX8_best_103 (by decide) ?_
      exact ww_f8_best_b104 C0 hn1 hk60 A0 f0 l5 l6 l7 (f9_at 16384 (A0 1) l7) 0 h _ _ _ hPD hS (lv_sub hl [1, 2, 3, 4, 5, 6, 7, 8, 0] rfl)
    · have h := (if_neg cc1).symm.trans h
      refine lv_iconst (v := 1) hx hb dX8_best_99 (by decide) ?_
      refine lv_goto (tgt := 104) hx hb dX8_best_100 (by decide) ?_
      exact ww_f8_best_b104 C0 hn1 hk60 A0 f0 l5 l6 l7 (f9_at 16384 (A0 1) l7) 1 h _ _ _ hPD hS (lv_sub hl [1, 2, 3, 4, 5, 6, 7, 8, 0] rfl)
set_option maxRecDepth 100000 in
set_option maxHeartbeats 4000000 in
theorem ww_f8_best_l60  (C0 : Cx cX8_best 11 (some .int) RX8 p s m args meth c G DA) {h0 : Nat} {a0 : Nat → Nat} {q1 : Nat} {h2 : Nat} {a2 : Nat → Nat} {n1 : Nat} {xs1 : Nat → Int32} {f2 : Nat → Int32} {A2 : Nat → Nat → Int32} {p1 : Int32} {p2 : Int32} (hn1 : n1 < 2147483648)  {res : Int32 × (Nat → Nat → Int32) × (Nat → Int32)}  : ∀ (n : Nat) (A0 : Nat → Nat → Int32) (f0 : Nat → Int32) (l5 : Int32) (l6 : Int32) (l7 : Int32), f8_best_l60 n1 xs1 f2 A2 p1 p2  n A0 f0 l5 l6 l7 = some res → ∀ (H : Heap) (locs : List Loc) (ls : Array Slot), WD G DA (wX8 G h0 a0 f0 A0 ++ (wI G q1 n1 xs1 ++ (wX1 G h2 a2 f2 A2))) H → va_S DA s.heap H locs → lv_has ls 11 [(0, .ref h0), (1, .int p1), (2, .int p2), (3, .ref q1), (4, .ref h2), (5, .int l5), (6, .int l6), (7, .int l7)] → W p l e rmX8_best s m args below meth c H locs 0 0 (MQ below (QI G DA res.1 (wX8 G h0 a0 res.2.2 res.2.1 ++ (wI G q1 n1 xs1 ++ (wX1 G h2 a2 f2 A2)))) args s 0 0 DA) (F0 m 60 ls []) := by
  intro n
  induction n with
  | zero => intro A0 f0 l5 l6 l7 h; cases h
  | succ n ih => intro A0 f0 l5 l6 l7 h; exact ww_f8_best_b60 C0 hn1  ih A0 f0 l5 l6 l7 h
set_option maxRecDepth 100000 in
set_option maxHeartbeats 4000000 in
theorem ww_f8_best_b22  (C0 : Cx cX8_best 11 (some .int) RX8 p s m args meth c G DA) {h0 : Nat} {a0 : Nat → Nat} {q1 : Nat} {h2 : Nat} {a2 : Nat → Nat} {n1 : Nat} {xs1 : Nat → Int32} {f2 : Nat → Int32} {A2 : Nat → Nat → Int32} {p1 : Int32} {p2 : Int32} (hn1 : n1 < 2147483648) {k22 : (Nat → Nat → Int32) → (Nat → Int32) → Int32 → Option (Int32 × (Nat → Nat → Int32) × (Nat → Int32))} {res : Int32 × (Nat → Nat → Int32) × (Nat → Int32)}  (hk22 : ∀ (A0 : Nat → Nat → Int32) (f0 : Nat → Int32) (l5 : Int32), k22 A0 f0 l5 = some res → ∀ (H : Heap) (locs : List Loc) (ls : Array Slot), WD G DA (wX8 G h0 a0 f0 A0 ++ (wI G q1 n1 xs1 ++ (wX1 G h2 a2 f2 A2))) H → va_S DA s.heap H locs → lv_has ls 11 [(0, .ref h0), (1, .int p1), (2, .int p2), (3, .ref q1), (4, .ref h2), (5, .int l5)] → W p l e rmX8_best s m args below meth c H locs 0 0 (MQ below (QI G DA res.1 (wX8 G h0 a0 res.2.2 res.2.1 ++ (wI G q1 n1 xs1 ++ (wX1 G h2 a2 f2 A2)))) args s 0 0 DA) (F0 m 22 ls [])) : ∀ (A0 : Nat → Nat → Int32) (f0 : Nat → Int32) (l5 : Int32), f8_best_b22 n1 xs1 f2 A2 p1 p2  k22 A0 f0 l5 = some res → ∀ (H : Heap) (locs : List Loc) (ls : Array Slot), WD G DA (wX8 G h0 a0 f0 A0 ++ (wI G q1 n1 xs1 ++ (wX1 G h2 a2 f2 A2))) H → va_S DA s.heap H locs → lv_has ls 11 [(0, .ref h0), (1, .int p1), (2, .int p2), (3, .ref q1), (4, .ref h2), (5, .int l5)] → W p l e rmX8_best s m args below meth c H locs 0 0 (MQ below (QI G DA res.1 (wX8 G h0 a0 res.2.2 res.2.1 ++ (wI G q1 n1 xs1 ++ (wX1 G h2 a2 f2 A2)))) args s 0 0 DA) (F0 m 22 ls []) := by
  obtain ⟨hx, hb, hml, hown, hts⟩ := C0.1
  have hK := C0.2.2.2.1
  intro A0 f0 l5 h _ _ _ hPD hS hl
  unfold f8_best_b22 at h
  refine lv_iload hx hb dX8_best_22 (lv_at hl 5 rfl) ?_
  refine lv_iload_n hx hb dX8_best_24 rfl (lv_at hl 2 rfl) ?_
  refine lv_icmp_ge (tgt := 51) hx hb dX8_best_25 (by decide) (fun cc1 => ?_) (fun cc1 => ?_)
  · have h := (if_pos cc1).symm.trans h
    refine lv_iconst (v := (-1)) hx hb dX8_best_51 (by decide) ?_
    refine lv_istore (lv' := [(5, .int (-1)), (0, .ref h0), (1, .int p1), (2, .int p2), (3, .ref q1), (4, .ref h2)]) hx hb dX8_best_52 hl (by decide) rfl (fun ls hl => ?_)
    refine lv_iconst (v := (-1)) hx hb dX8_best_54 (by decide) ?_
    refine lv_istore (lv' := [(6, .int (-1)), (5, .int (-1)), (0, .ref h0), (1, .int p1), (2, .int p2), (3, .ref q1), (4, .ref h2)]) hx hb dX8_best_55 hl (by decide) rfl (fun ls hl => ?_)
    refine lv_iconst (v := 0) hx hb dX8_best_57 (by decide) ?_
    refine lv_istore (lv' := [(7, .int 0), (6, .int (-1)), (5, .int (-1)), (0, .ref h0), (1, .int p1), (2, .int p2), (3, .ref q1), (4, .ref h2)]) hx hb dX8_best_58 hl (by decide) rfl (fun ls hl => ?_)
    exact ww_f8_best_l60 C0 hn1 NF A0 f0 (-1) (-1) 0 h _ _ _ hPD hS (lv_sub hl [3, 4, 5, 6, 7, 2, 1, 0] rfl)
  · have h := (if_neg cc1).symm.trans h
    refine lv_iload hx hb dX8_best_28 (lv_at hl 5 rfl) ?_
    refine lv_bipush (v := 8) hx hb dX8_best_30 (by decide) ?_
    refine lv_icmp_ge (tgt := 51) hx hb dX8_best_32 (by decide) (fun cc1 => ?_) (fun cc1 => ?_)
    · have h := (if_pos cc1).symm.trans h
      refine lv_iconst (v := (-1)) hx hb dX8_best_51 (by decide) ?_
      refine lv_istore (lv' := [(5, .int (-1)), (0, .ref h0), (1, .int p1), (2, .int p2), (3, .ref q1), (4, .ref h2)]) hx hb dX8_best_52 hl (by decide) rfl (fun ls hl => ?_)
      refine lv_iconst (v := (-1)) hx hb dX8_best_54 (by decide) ?_
      refine lv_istore (lv' := [(6, .int (-1)), (5, .int (-1)), (0, .ref h0), (1, .int p1), (2, .int p2), (3, .ref q1), (4, .ref h2)]) hx hb dX8_best_55 hl (by decide) rfl (fun ls hl => ?_)
      refine lv_iconst (v := 0) hx hb dX8_best_57 (by decide) ?_
      refine lv_istore (lv' := [(7, .int 0), (6, .int (-1)), (5, .int (-1)), (0, .ref h0), (1, .int p1), (2, .int p2), (3, .ref q1), (4, .ref h2)]) hx hb dX8_best_58 hl (by decide) rfl (fun ls hl => ?_)
      exact ww_f8_best_l60 C0 hn1 NF A0 f0 (-1) (-1) 0 h _ _ _ hPD hS (lv_sub hl [3, 4, 5, 6, 7, 2, 1, 0] rfl)
    · have h := (if_neg cc1).symm.trans h
      refine lv_aload_n hx hb dX8_best_35 rfl (lv_at hl 0 rfl) ?_
      refine lv_aload hx hb dX8_best_36 (lv_at hl 4 rfl) ?_
      obtain ⟨q_7, hq_7, h⟩ := ob2 h
      refine kVV (As := [.ref h2]) (rest := []) C0 (kt_X8_goOn l G h0 a0 h2 a2 f0 A0 f2 A2 hq_7) gi_V_X8_30_X8_goOn (n := 1) rfl (by decide +kernel) rfl ⟨rfl, rfl, Nat.le_of_ble_eq_true rfl, Nat.le_of_ble_eq_true rfl⟩ hPD hS 0 8 rfl rfl rfl [0, 1, 2, 4, 5, 6, 7] [3] [1, 2, 3, 0, 4, 5, 6, 7] (wr := (wI G q1 n1 xs1)) (wN := (wX8 G h0 a0 q_7.2 q_7.1 ++ (wI G q1 n1 xs1 ++ (wX1 G h2 a2 f2 A2)))) rfl rfl rfl rfl rfl hl.1 (Nat.le_of_ble_eq_true rfl) dX8_best_38 (fun H locs hPD hS => ?_)
      refine lv_aload_n hx hb dX8_best_41 rfl (lv_at hl 0 rfl) ?_
      obtain ⟨q_8, hq_8, h⟩ := ob2 h
      refine kVV (As := []) (rest := []) C0 (kt_X8_settle l G h0 a0 q_7.2 q_7.1 hq_8) gi_V_X8_27_X8_settle (n := 0) rfl (by decide +kernel) rfl ⟨rfl, rfl, Nat.le_of_ble_eq_true rfl, Nat.le_of_ble_eq_true rfl⟩ hPD hS 0 8 rfl rfl rfl [0, 1, 2] [3, 4, 5, 6, 7] [5, 6, 7, 0, 1, 2, 3, 4] (wr := (wI G q1 n1 xs1 ++ (wX1 G h2 a2 f2 A2))) (wN := (wX8 G h0 a0 q_7.2 q_8 ++ (wI G q1 n1 xs1 ++ (wX1 G h2 a2 f2 A2)))) rfl rfl rfl rfl rfl hl.1 (Nat.le_of_ble_eq_true rfl) dX8_best_42 (fun H locs hPD hS => ?_)
      refine lv_iinc (v := l5 + 1) (lv' := [(5, .int (l5 + 1)), (0, .ref h0), (1, .int p1), (2, .int p2), (3, .ref q1), (4, .ref h2)]) hx hb dX8_best_45 hl (k := 5) rfl rfl (by decide) rfl (fun ls hl => ?_)
      refine lv_goto (tgt := 22) hx hb dX8_best_48 (by decide) ?_
      exact hk22 q_8 q_7.2 (l5 + 1) h _ _ _ hPD hS (lv_sub hl [1, 2, 3, 4, 5, 0] rfl)
set_option maxRecDepth 100000 in
set_option maxHeartbeats 4000000 in
theorem ww_f8_best_l22  (C0 : Cx cX8_best 11 (some .int) RX8 p s m args meth c G DA) {h0 : Nat} {a0 : Nat → Nat} {q1 : Nat} {h2 : Nat} {a2 : Nat → Nat} {n1 : Nat} {xs1 : Nat → Int32} {f2 : Nat → Int32} {A2 : Nat → Nat → Int32} {p1 : Int32} {p2 : Int32} (hn1 : n1 < 2147483648)  {res : Int32 × (Nat → Nat → Int32) × (Nat → Int32)}  : ∀ (n : Nat) (A0 : Nat → Nat → Int32) (f0 : Nat → Int32) (l5 : Int32), f8_best_l22 n1 xs1 f2 A2 p1 p2  n A0 f0 l5 = some res → ∀ (H : Heap) (locs : List Loc) (ls : Array Slot), WD G DA (wX8 G h0 a0 f0 A0 ++ (wI G q1 n1 xs1 ++ (wX1 G h2 a2 f2 A2))) H → va_S DA s.heap H locs → lv_has ls 11 [(0, .ref h0), (1, .int p1), (2, .int p2), (3, .ref q1), (4, .ref h2), (5, .int l5)] → W p l e rmX8_best s m args below meth c H locs 0 0 (MQ below (QI G DA res.1 (wX8 G h0 a0 res.2.2 res.2.1 ++ (wI G q1 n1 xs1 ++ (wX1 G h2 a2 f2 A2)))) args s 0 0 DA) (F0 m 22 ls []) := by
  intro n
  induction n with
  | zero => intro A0 f0 l5 h; cases h
  | succ n ih => intro A0 f0 l5 h; exact ww_f8_best_b22 C0 hn1  ih A0 f0 l5 h
set_option maxRecDepth 100000 in
set_option maxHeartbeats 4000000 in
theorem kt_X8_best (l : Launch) (G : Gp) (h0 : Nat) (a0 : Nat → Nat) (q1 : Nat) (h2 : Nat) (a2 : Nat → Nat) (f0 : Nat → Int32) (A0 : Nat → Nat → Int32) (n1 : Nat) (xs1 : Nat → Int32) (f2 : Nat → Int32) (A2 : Nat → Nat → Int32) (p1 : Int32) (p2 : Int32) (hn1 : n1 < 2147483648) : ∀ {r : Int32 × (Nat → Nat → Int32) × (Nat → Int32)}, f8_best f0 A0 n1 xs1 f2 A2 p1 p2 = some r → CtrI l yX8_best cX8_best 11 (some .int) rmX8_best G [.ref h0, .int p1, .int p2, .ref q1, .ref h2] (wX8 G h0 a0 f0 A0 ++ (wI G q1 n1 xs1 ++ (wX1 G h2 a2 f2 A2))) r.1 (wX8 G h0 a0 r.2.2 r.2.1 ++ (wI G q1 n1 xs1 ++ (wX1 G h2 a2 f2 A2))) := by
  intro res h
  refine ctrI_of (cc := cX8_best) (maxL := 11) (ret := (some .int)) (by decide +kernel) rfl (Nat.le_of_ble_eq_true rfl) (fun p e s m below meth c DA C0 hP hD ls hl => ?_)
  have hPD : WD G DA (wX8 G h0 a0 f0 A0 ++ (wI G q1 n1 xs1 ++ (wX1 G h2 a2 f2 A2))) s.heap := ⟨hP, hD⟩
  have hS : va_S DA s.heap s.heap [] := va_S.rf
  have hl : lv_has ls 11 [(0, .ref h0), (1, .int p1), (2, .int p2), (3, .ref q1), (4, .ref h2)] := hl
  obtain ⟨hx, hb, hml, hown, hts⟩ := C0.1
  have hK := C0.2.2.2.1
  unfold f8_best at h
  refine lv_aload_n hx hb dX8_best_0 rfl (lv_at hl 0 rfl) ?_
  refine lv_iconst (v := 0) hx hb dX8_best_1 (by decide) ?_
  refine va_put (D := G.1) (ci := 8) (v := .int 0) (ty := .int) (C := RX8) (T := TX8) (N := 3) hx hb hts inlX8 tyX8 tyX8_ok nmX8 hown hK hPD.1 hPD.2 hS 0 rfl rfl 2 (by decide) (hts _ gw_334) (fun _ h9 => h9) rfl (by decide +kernel) rfl rfl (Nat.le_of_ble_eq_true rfl) dX8_best_2 (fun H locs hP hD hS => ?_)
  obtain ⟨f0_1, ef0_1, h⟩ := lvl h
  have hPD : WD G DA (wX8 G h0 a0 f0_1 A0 ++ (wI G q1 n1 xs1 ++ (wX1 G h2 a2 f2 A2))) H := by rw [ef0_1]; exact ⟨hP, hD⟩
  clear ef0_1 hP hD
  refine lv_aload_n hx hb dX8_best_5 rfl (lv_at hl 0 rfl) ?_
  refine lv_iconst (v := 1) hx hb dX8_best_6 (by decide) ?_
  refine lv_iload_n hx hb dX8_best_7 rfl (lv_at hl 1 rfl) ?_
  refine lv_ishl hx hb dX8_best_8 ?_
  refine lv_iconst (v := 1) hx hb dX8_best_9 (by decide) ?_
  refine lv_iload_n hx hb dX8_best_10 rfl (lv_at hl 1 rfl) ?_
  refine lv_ishl hx hb dX8_best_11 ?_
  obtain ⟨q_2, hq_2, h⟩ := ob2 h
  refine kVV (As := [.int (shl 1 p1), .int (shl 1 p1)]) (rest := []) C0 (kt_X8_add l G h0 a0 f0_1 A0 (shl 1 p1) (shl 1 p1) hq_2) gi_V_X8_23_X8_add (n := 2) rfl (by decide +kernel) rfl ⟨rfl, rfl, Nat.le_of_ble_eq_true rfl, Nat.le_of_ble_eq_true rfl⟩ hPD hS 0 8 rfl rfl rfl [0, 1, 2] [3, 4, 5, 6, 7] [5, 6, 7, 0, 1, 2, 3, 4] (wr := (wI G q1 n1 xs1 ++ (wX1 G h2 a2 f2 A2))) (wN := (wX8 G h0 a0 q_2.2 q_2.1 ++ (wI G q1 n1 xs1 ++ (wX1 G h2 a2 f2 A2)))) rfl rfl rfl rfl rfl hl.1 (Nat.le_of_ble_eq_true rfl) dX8_best_12 (fun H locs hPD hS => ?_)
  refine lv_aload_n hx hb dX8_best_15 rfl (lv_at hl 0 rfl) ?_
  obtain ⟨q_3, hq_3, h⟩ := ob2 h
  refine kVV (As := []) (rest := []) C0 (kt_X8_settle l G h0 a0 q_2.2 q_2.1 hq_3) gi_V_X8_27_X8_settle (n := 0) rfl (by decide +kernel) rfl ⟨rfl, rfl, Nat.le_of_ble_eq_true rfl, Nat.le_of_ble_eq_true rfl⟩ hPD hS 0 8 rfl rfl rfl [0, 1, 2] [3, 4, 5, 6, 7] [5, 6, 7, 0, 1, 2, 3, 4] (wr := (wI G q1 n1 xs1 ++ (wX1 G h2 a2 f2 A2))) (wN := (wX8 G h0 a0 q_2.2 q_3 ++ (wI G q1 n1 xs1 ++ (wX1 G h2 a2 f2 A2)))) rfl rfl rfl rfl rfl hl.1 (Nat.le_of_ble_eq_true rfl) dX8_best_16 (fun H locs hPD hS => ?_)
  refine lv_iconst (v := 1) hx hb dX8_best_19 (by decide) ?_
  refine lv_istore (lv' := [(5, .int 1), (0, .ref h0), (1, .int p1), (2, .int p2), (3, .ref q1), (4, .ref h2)]) hx hb dX8_best_20 hl (by decide) rfl (fun ls hl => ?_)
  exact ww_f8_best_l22 C0 hn1 NF q_3 q_2.2 1 h _ _ _ hPD hS (lv_sub hl [1, 2, 3, 4, 5, 0] rfl)
abbrev rmX9_place : Room := { frames := 1, cells := 0, slots := 0, locals := 22 }
set_option maxRecDepth 100000 in
set_option maxHeartbeats 4000000 in
theorem kt_X9_place (l : Launch) (G : Gp) (h0 : Nat) (a0 : Nat → Nat) (wk : Option Nat) (a1 : Nat → Nat) (a2 : Nat → Nat) (f0 : Nat → Int32) (A0 : Nat → Nat → Int32) (f1 : Nat → Int32) (A1 : Nat → Nat → Int32) (f2 : Nat → Int32) (A2 : Nat → Nat → Int32) (p1 : Int32) (p2 : Int32) (p3 : Int32) : ∀ {r : Int32 × (Nat → Int32) × (Nat → Nat → Int32)}, f9_place f0 A0 f1 A1 f2 A2 p1 p2 p3 = some r → CtrI l yX9_place cX9_place 4 (some .boolean) rmX9_place G [.ref h0, .int p1, .int p2, .int p3] (wX9 G h0 a0 wk f0 A0 ++ (wX1 G (a0 1) a1 f1 A1 ++ (wX6 G (a0 2) a2 f2 A2))) r.1 (wX9 G h0 a0 wk f0 A0 ++ (wX1 G (a0 1) a1 r.2.1 A1 ++ (wX6 G (a0 2) a2 f2 r.2.2))) := by
  intro res h
  refine ctrI_of (cc := cX9_place) (maxL := 4) (ret := (some .boolean)) (by decide +kernel) rfl (Nat.le_of_ble_eq_true rfl) (fun p e s m below meth c DA C0 hP hD ls hl => ?_)
  have hPD : WD G DA (wX9 G h0 a0 wk f0 A0 ++ (wX1 G (a0 1) a1 f1 A1 ++ (wX6 G (a0 2) a2 f2 A2))) s.heap := ⟨hP, hD⟩
  have hS : va_S DA s.heap s.heap [] := va_S.rf
  have hl : lv_has ls 4 [(0, .ref h0), (1, .int p1), (2, .int p2), (3, .int p3)] := hl
  obtain ⟨hx, hb, hml, hown, hts⟩ := C0.1
  have hK := C0.2.2.2.1
  unfold f9_place at h
  refine lv_iload_n hx hb dX9_place_0 rfl (lv_at hl 1 rfl) ?_
  refine lv_iconst (v := 0) hx hb dX9_place_1 (by decide) ?_
  refine lv_bipush (v := 15) hx hb dX9_place_2 (by decide) ?_
  refine kSI (As := [.int p1, .int 0, .int 15]) (rest := []) C0 (kt_X9_within l G  p1 0 15) gi_S_X9_90_X9_within (n := 3) rfl (by decide +kernel) ⟨rfl, rfl, Nat.le_of_ble_eq_true rfl, Nat.le_of_ble_eq_true rfl⟩ hPD hS [] [0, 1, 2, 3, 4, 5, 6, 7, 8, 9, 10, 11] [0, 1, 2, 3, 4, 5, 6, 7, 8, 9, 10, 11] (wr := (wX9 G h0 a0 wk f0 A0 ++ (wX1 G (a0 1) a1 f1 A1 ++ (wX6 G (a0 2) a2 f2 A2)))) (wN := (wX9 G h0 a0 wk f0 A0 ++ (wX1 G (a0 1) a1 f1 A1 ++ (wX6 G (a0 2) a2 f2 A2)))) rfl rfl rfl rfl rfl hl.1 (Nat.le_of_ble_eq_true rfl) dX9_place_4 (fun H locs hPD hS => ?_)
  refine lv_if_eq (tgt := 31) hx hb dX9_place_7 (by decide) (fun cc1 => ?_) (fun cc1 => ?_)
  · have h := (if_pos cc1).symm.trans h
    refine lv_iconst (v := 0) hx hb dX9_place_31 (by decide) ?_
    obtain rfl := Option.some.inj h
    exact eZ C0 hPD.1 hPD.2 hS rfl rfl dX9_place_32
  · have h := (if_neg cc1).symm.trans h
    refine lv_iload_n hx hb dX9_place_10 rfl (lv_at hl 2 rfl) ?_
    refine lv_iconst (v := 0) hx hb dX9_place_11 (by decide) ?_
    refine lv_bipush (v := 99) hx hb dX9_place_12 (by decide) ?_
    refine kSI (As := [.int p2, .int 0, .int 99]) (rest := []) C0 (kt_X9_within l G  p2 0 99) gi_S_X9_90_X9_within (n := 3) rfl (by decide +kernel) ⟨rfl, rfl, Nat.le_of_ble_eq_true rfl, Nat.le_of_ble_eq_true rfl⟩ hPD hS [] [0, 1, 2, 3, 4, 5, 6, 7, 8, 9, 10, 11] [0, 1, 2, 3, 4, 5, 6, 7, 8, 9, 10, 11] (wr := (wX9 G h0 a0 wk f0 A0 ++ (wX1 G (a0 1) a1 f1 A1 ++ (wX6 G (a0 2) a2 f2 A2)))) (wN := (wX9 G h0 a0 wk f0 A0 ++ (wX1 G (a0 1) a1 f1 A1 ++ (wX6 G (a0 2) a2 f2 A2)))) rfl rfl rfl rfl rfl hl.1 (Nat.le_of_ble_eq_true rfl) dX9_place_14 (fun H locs hPD hS => ?_)
    refine lv_if_eq (tgt := 31) hx hb dX9_place_17 (by decide) (fun cc1 => ?_) (fun cc1 => ?_)
    · have h := (if_pos cc1).symm.trans h
      refine lv_iconst (v := 0) hx hb dX9_place_31 (by decide) ?_
      obtain rfl := Option.some.inj h
      exact eZ C0 hPD.1 hPD.2 hS rfl rfl dX9_place_32
    · have h := (if_neg cc1).symm.trans h
      refine lv_iload_n hx hb dX9_place_20 rfl (lv_at hl 3 rfl) ?_
      refine lv_iconst (v := 0) hx hb dX9_place_21 (by decide) ?_
      refine lv_sipush (v := 999) hx hb dX9_place_22 (by decide) ?_
      refine kSI (As := [.int p3, .int 0, .int 999]) (rest := []) C0 (kt_X9_within l G  p3 0 999) gi_S_X9_90_X9_within (n := 3) rfl (by decide +kernel) ⟨rfl, rfl, Nat.le_of_ble_eq_true rfl, Nat.le_of_ble_eq_true rfl⟩ hPD hS [] [0, 1, 2, 3, 4, 5, 6, 7, 8, 9, 10, 11] [0, 1, 2, 3, 4, 5, 6, 7, 8, 9, 10, 11] (wr := (wX9 G h0 a0 wk f0 A0 ++ (wX1 G (a0 1) a1 f1 A1 ++ (wX6 G (a0 2) a2 f2 A2)))) (wN := (wX9 G h0 a0 wk f0 A0 ++ (wX1 G (a0 1) a1 f1 A1 ++ (wX6 G (a0 2) a2 f2 A2)))) rfl rfl rfl rfl rfl hl.1 (Nat.le_of_ble_eq_true rfl) dX9_place_25 (fun H locs hPD hS => ?_)
      refine lv_if_ne (tgt := 33) hx hb dX9_place_28 (by decide) (fun cc1 => ?_) (fun cc1 => ?_)
      · have h := (if_neg cc1).symm.trans h
        refine lv_aload_n hx hb dX9_place_33 rfl (lv_at hl 0 rfl) ?_
        refine va_get (D := G.1) (ci := 9) (v := .ref (a0 1)) (C := RX9) (T := TX9) (N := 15) hx hb hts inlX9 hown hK hPD.1 0 rfl rfl 1 (by decide) (hts _ gw_351) (fun _ h9 => h9) rfl dX9_place_34 ?_
        refine lv_dup hx hb dX9_place_37 rfl ?_
        refine va_get (D := G.1) (ci := 1) (v := .int (f1 0)) (C := RX1) (T := TX1) (N := 4) hx hb hts inlX1 hown hK hPD.1 2 rfl rfl 0 (by decide) (hts _ gw_352) (fun _ h9 => h9) rfl dX9_place_38 ?_
        refine lv_iconst (v := 1) hx hb dX9_place_41 (by decide) ?_
        refine lv_iload_n hx hb dX9_place_42 rfl (lv_at hl 1 rfl) ?_
        refine lv_ishl hx hb dX9_place_43 ?_
        refine lv_ior hx hb dX9_place_44 ?_
        refine va_put (D := G.1) (ci := 1) (v := .int ((f1 0) ||| (shl 1 p1))) (ty := .int) (C := RX1) (T := TX1) (N := 4) hx hb hts inlX1 tyX1 tyX1_ok nmX1 hown hK hPD.1 hPD.2 hS 2 rfl rfl 0 (by decide) (hts _ gw_352) (fun _ h9 => h9) rfl (by decide +kernel) rfl rfl (Nat.le_of_ble_eq_true rfl) dX9_place_45 (fun H locs hP hD hS => ?_)
        obtain ⟨f1_1, ef1_1, h⟩ := lvl h
        have hPD : WD G DA (wX9 G h0 a0 wk f0 A0 ++ (wX1 G (a0 1) a1 f1_1 A1 ++ (wX6 G (a0 2) a2 f2 A2))) H := by rw [ef1_1]; exact ⟨hP, hD⟩
        clear ef1_1 hP hD
        refine lv_aload_n hx hb dX9_place_48 rfl (lv_at hl 0 rfl) ?_
        refine va_get (D := G.1) (ci := 9) (v := .ref (a0 2)) (C := RX9) (T := TX9) (N := 15) hx hb hts inlX9 hown hK hPD.1 0 rfl rfl 2 (by decide) (hts _ gw_353) (fun _ h9 => h9) rfl dX9_place_49 ?_
        refine va_get (D := G.1) (ci := 6) (v := .ref (a2 0)) (C := RX6) (T := TX6) (N := 10) hx hb hts inlX6 hown hK hPD.1 6 rfl rfl 0 (by decide) (hts _ gw_354) (fun _ h9 => h9) rfl dX9_place_52 ?_
        refine lv_iload_n hx hb dX9_place_55 rfl (lv_at hl 1 rfl) ?_
        refine lv_iload_n hx hb dX9_place_56 rfl (lv_at hl 2 rfl) ?_
        obtain ⟨z_2, ez_2, h⟩ := lvl h
        have kc := kt_X9_put l G (a2 0) 16 (A2 0) p1 p2 (by decide)
        rw [← ez_2] at kc
        clear ez_2
        refine kSV (As := [.ref (a2 0), .int p1, .int p2]) (rest := []) C0 (kc) gi_S_X9_101_X9_put (n := 3) rfl (by decide +kernel) ⟨rfl, rfl, Nat.le_of_ble_eq_true rfl, Nat.le_of_ble_eq_true rfl⟩ hPD hS [7] [0, 1, 2, 3, 4, 5, 6, 8, 9, 10, 11] [0, 1, 2, 3, 4, 5, 6, 11, 7, 8, 9, 10] (wr := pick (wX9 G h0 a0 wk f0 A0 ++ (wX1 G (a0 1) a1 f1_1 A1 ++ (wX6 G (a0 2) a2 f2 A2))) [0, 1, 2, 3, 4, 5, 6, 8, 9, 10, 11]) (wN := (wX9 G h0 a0 wk f0 A0 ++ (wX1 G (a0 1) a1 f1_1 A1 ++ (wX6 G (a0 2) a2 f2 (updA A2 0 z_2))))) rfl rfl rfl rfl rfl hl.1 (Nat.le_of_ble_eq_true rfl) dX9_place_57 (fun H locs hPD hS => ?_)
        obtain ⟨A2_3, eA2_3, h⟩ := lvl h
        have hPD : WD G DA (wX9 G h0 a0 wk f0 A0 ++ (wX1 G (a0 1) a1 f1_1 A1 ++ (wX6 G (a0 2) a2 f2 A2_3))) H := by rw [eA2_3]; exact hPD
        clear eA2_3
        refine lv_aload_n hx hb dX9_place_60 rfl (lv_at hl 0 rfl) ?_
        refine va_get (D := G.1) (ci := 9) (v := .ref (a0 2)) (C := RX9) (T := TX9) (N := 15) hx hb hts inlX9 hown hK hPD.1 0 rfl rfl 2 (by decide) (hts _ gw_353) (fun _ h9 => h9) rfl dX9_place_61 ?_
        refine va_get (D := G.1) (ci := 6) (v := .ref (a2 1)) (C := RX6) (T := TX6) (N := 10) hx hb hts inlX6 hown hK hPD.1 6 rfl rfl 1 (by decide) (hts _ gw_356) (fun _ h9 => h9) rfl dX9_place_64 ?_
        refine lv_iload_n hx hb dX9_place_67 rfl (lv_at hl 1 rfl) ?_
        refine lv_iload_n hx hb dX9_place_68 rfl (lv_at hl 3 rfl) ?_
        obtain ⟨z_4, ez_4, h⟩ := lvl h
        have kc := kt_X9_put l G (a2 1) 16 (A2_3 1) p1 p3 (by decide)
        rw [← ez_4] at kc
        clear ez_4
        refine kSV (As := [.ref (a2 1), .int p1, .int p3]) (rest := []) C0 (kc) gi_S_X9_101_X9_put (n := 3) rfl (by decide +kernel) ⟨rfl, rfl, Nat.le_of_ble_eq_true rfl, Nat.le_of_ble_eq_true rfl⟩ hPD hS [8] [0, 1, 2, 3, 4, 5, 6, 7, 9, 10, 11] [0, 1, 2, 3, 4, 5, 6, 7, 11, 8, 9, 10] (wr := pick (wX9 G h0 a0 wk f0 A0 ++ (wX1 G (a0 1) a1 f1_1 A1 ++ (wX6 G (a0 2) a2 f2 A2_3))) [0, 1, 2, 3, 4, 5, 6, 7, 9, 10, 11]) (wN := (wX9 G h0 a0 wk f0 A0 ++ (wX1 G (a0 1) a1 f1_1 A1 ++ (wX6 G (a0 2) a2 f2 (updA A2_3 1 z_4))))) rfl rfl rfl rfl rfl hl.1 (Nat.le_of_ble_eq_true rfl) dX9_place_69 (fun H locs hPD hS => ?_)
        obtain ⟨A2_5, eA2_5, h⟩ := lvl h
        have hPD : WD G DA (wX9 G h0 a0 wk f0 A0 ++ (wX1 G (a0 1) a1 f1_1 A1 ++ (wX6 G (a0 2) a2 f2 A2_5))) H := by rw [eA2_5]; exact hPD
        clear eA2_5
        refine lv_iconst (v := 1) hx hb dX9_place_72 (by decide) ?_
        obtain rfl := Option.some.inj h
        exact eZ C0 hPD.1 hPD.2 hS rfl rfl dX9_place_73
      · have h := (if_pos cc1).symm.trans h
        refine lv_iconst (v := 0) hx hb dX9_place_31 (by decide) ?_
        obtain rfl := Option.some.inj h
        exact eZ C0 hPD.1 hPD.2 hS rfl rfl dX9_place_32
end WALK
