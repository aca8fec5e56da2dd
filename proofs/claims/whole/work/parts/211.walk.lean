section WALK
variable {p : Program} {l : Launch} {e : Env} {s : State} {m : MethodId} {args : Array Value} {below : List Frame} {meth : Method} {c : Code} {G : Gp} {DA : Nat → Prop}
abbrev rmX10_pays : Room := { frames := 5, cells := 0, slots := 0, locals := 110 }
set_option maxRecDepth 100000 in
set_option maxHeartbeats 4000000 in
theorem ww_f10_pays_b16  (C0 : Cx cX10_pays 5 none RX10 p s m args meth c G DA) {h0 : Nat} {a0 : Nat → Nat} {p1 : Int32}  {k16 : (Nat → Nat → Int32) → (Nat → Int32) → Int32 → Int32 → Option ((Nat → Nat → Int32) × (Nat → Int32))} {res : (Nat → Nat → Int32) × (Nat → Int32)}  (hk16 : ∀ (A0 : Nat → Nat → Int32) (f0 : Nat → Int32) (l2 : Int32) (l3 : Int32), k16 A0 f0 l2 l3 = some res → ∀ (H : Heap) (locs : List Loc) (ls : Array Slot), WD G DA (wX10 G h0 a0 f0 A0) H → va_S DA s.heap H locs → lv_has ls 5 [(0, .ref h0), (1, .int p1), (2, .int l2), (3, .int l3)] → W p l e rmX10_pays s m args below meth c H locs 0 0 (MQ below (QV G DA (wX10 G h0 a0 res.2 res.1)) args s 0 0 DA) (F0 m 16 ls [])) : ∀ (A0 : Nat → Nat → Int32) (f0 : Nat → Int32) (l2 : Int32) (l3 : Int32), f10_pays_b16 p1  k16 A0 f0 l2 l3 = some res → ∀ (H : Heap) (locs : List Loc) (ls : Array Slot), WD G DA (wX10 G h0 a0 f0 A0) H → va_S DA s.heap H locs → lv_has ls 5 [(0, .ref h0), (1, .int p1), (2, .int l2), (3, .int l3)] → W p l e rmX10_pays s m args below meth c H locs 0 0 (MQ below (QV G DA (wX10 G h0 a0 res.2 res.1)) args s 0 0 DA) (F0 m 16 ls []) := by
  obtain ⟨hx, hb, hml, hown, hts⟩ := C0.1
  have hK := C0.2.2.2.1
  intro A0 f0 l2 l3 h _ _ _ hPD hS hl
  unfold f10_pays_b16 at h
  refine lv_iload_n hx hb dX10_pays_16 rfl (lv_at hl 3 rfl) ?_
  refine lv_bipush (v := 8) hx hb dX10_pays_17 (by decide) ?_
  refine lv_icmp_ge (tgt := 94) hx hb dX10_pays_19 (by decide) (fun cc1 => ?_) (fun cc1 => ?_)
  · have h := (if_pos cc1).symm.trans h
    obtain rfl := Option.some.inj h
    exact eV C0 hPD.1 hPD.2 hS dX10_pays_94
  · have h := (if_neg cc1).symm.trans h
    refine lv_aload_n hx hb dX10_pays_22 rfl (lv_at hl 0 rfl) ?_
    refine lv_iload_n hx hb dX10_pays_23 rfl (lv_at hl 1 rfl) ?_
    obtain ⟨q_3, hq_3, h⟩ := ob2 h
    refine kVI (As := [.int p1]) (rest := []) C0 (kt_X10_menAt l G h0 a0 f0 A0 p1 hq_3) gi_V_X10_241_X10_menAt (n := 1) rfl (by decide +kernel) rfl ⟨rfl, rfl, Nat.le_of_ble_eq_true rfl, Nat.le_of_ble_eq_true rfl⟩ hPD hS 0 10 rfl rfl rfl [0, 1, 2, 3, 4, 5, 6, 7, 8, 9, 10, 11, 12, 13, 14, 15, 16, 17, 18, 19, 20, 21, 22, 23, 24, 25, 26, 27, 28, 29, 30, 31, 32, 33] [] [0, 1, 2, 3, 4, 5, 6, 7, 8, 9, 10, 11, 12, 13, 14, 15, 16, 17, 18, 19, 20, 21, 22, 23, 24, 25, 26, 27, 28, 29, 30, 31, 32, 33] (wN := (wX10 G h0 a0 f0 A0)) rfl rfl rfl rfl rfl hl.1 (Nat.le_of_ble_eq_true rfl) dX10_pays_24 (fun H locs hPD hS => ?_)
    refine lv_iload_n hx hb dX10_pays_27 rfl (lv_at hl 3 rfl) ?_
    refine kSI (As := [.int q_3, .int l3]) (rest := []) C0 (kt_X10_has l G  q_3 l3) gi_S_X10_120_X10_has (n := 2) rfl (by decide +kernel) ⟨rfl, rfl, Nat.le_of_ble_eq_true rfl, Nat.le_of_ble_eq_true rfl⟩ hPD hS [] [0, 1, 2, 3, 4, 5, 6, 7, 8, 9, 10, 11, 12, 13, 14, 15, 16, 17, 18, 19, 20, 21, 22, 23, 24, 25, 26, 27, 28, 29, 30, 31, 32, 33] [0, 1, 2, 3, 4, 5, 6, 7, 8, 9, 10, 11, 12, 13, 14, 15, 16, 17, 18, 19, 20, 21, 22, 23, 24, 25, 26, 27, 28, 29, 30, 31, 32, 33] (wN := (wX10 G h0 a0 f0 A0)) rfl rfl rfl rfl rfl hl.1 (Nat.le_of_ble_eq_true rfl) dX10_pays_28 (fun H locs hPD hS => ?_)
    refine lv_if_ne (tgt := 37) hx hb dX10_pays_31 (by decide) (fun cc1 => ?_) (fun cc1 => ?_)
    · have h := (if_neg cc1).symm.trans h
      refine lv_iload_n hx hb dX10_pays_37 rfl (lv_at hl 2 rfl) ?_
      refine lv_ldcw (v := 999999) hx hb hown (hts _ gw_736) dX10_pays_38 ?_
      refine lv_aload_n hx hb dX10_pays_41 rfl (lv_at hl 0 rfl) ?_
      refine va_get (D := G.1) (ci := 10) (v := .ref (a0 0)) (C := RX10) (T := TX10) (N := 52) hx hb hts inlX10 hown hK hPD.1 0 rfl rfl 0 (by decide) (hts _ gw_539) (fun _ h9 => h9) rfl dX10_pays_42 ?_
      refine lv_bipush (v := 64) hx hb dX10_pays_45 (by decide) ?_
      refine lv_iload_n hx hb dX10_pays_47 rfl (lv_at hl 3 rfl) ?_
      refine lv_iadd hx hb dX10_pays_48 ?_
      obtain ⟨hi_4, h⟩ := ob h
      refine va_iald hx hb hK hPD.1 1 1 rfl rfl hi_4 dX10_pays_49 ?_
      refine lv_isub hx hb dX10_pays_50 ?_
      refine kSI (As := [.int l2, .int (999999 - (gx (A0 0) (64 + l3)))]) (rest := []) C0 (kt_X10_min l G  l2 (999999 - (gx (A0 0) (64 + l3)))) gi_S_X10_284_X10_min (n := 2) rfl (by decide +kernel) ⟨rfl, rfl, Nat.le_of_ble_eq_true rfl, Nat.le_of_ble_eq_true rfl⟩ hPD hS [] [0, 1, 2, 3, 4, 5, 6, 7, 8, 9, 10, 11, 12, 13, 14, 15, 16, 17, 18, 19, 20, 21, 22, 23, 24, 25, 26, 27, 28, 29, 30, 31, 32, 33] [0, 1, 2, 3, 4, 5, 6, 7, 8, 9, 10, 11, 12, 13, 14, 15, 16, 17, 18, 19, 20, 21, 22, 23, 24, 25, 26, 27, 28, 29, 30, 31, 32, 33] (wN := (wX10 G h0 a0 f0 A0)) rfl rfl rfl rfl rfl hl.1 (Nat.le_of_ble_eq_true rfl) dX10_pays_51 (fun H locs hPD hS => ?_)
      refine lv_istore (lv' := [(4, .int (f10_min l2 (999999 - (gx (A0 0) (64 + l3))))), (0, .ref h0), (1, .int p1), (2, .int l2), (3, .int l3)]) hx hb dX10_pays_54 hl (by decide) rfl (fun ls hl => ?_)
      refine lv_aload_n hx hb dX10_pays_56 rfl (lv_at hl 1 rfl) ?_
      refine va_get (D := G.1) (ci := 10) (v := .ref (a0 0)) (C := RX10) (T := TX10) (N := 52) hx hb hts inlX10 hown hK hPD.1 0 rfl rfl 0 (by decide) (hts _ gw_539) (fun _ h9 => h9) rfl dX10_pays_57 ?_
      refine lv_bipush (v := 64) hx hb dX10_pays_60 (by decide) ?_
      refine lv_iload_n hx hb dX10_pays_62 rfl (lv_at hl 4 rfl) ?_
      refine lv_iadd hx hb dX10_pays_63 ?_
      refine lv_aload_n hx hb dX10_pays_64 rfl (lv_at hl 1 rfl) ?_
      refine va_get (D := G.1) (ci := 10) (v := .ref (a0 0)) (C := RX10) (T := TX10) (N := 52) hx hb hts inlX10 hown hK hPD.1 0 rfl rfl 0 (by decide) (hts _ gw_539) (fun _ h9 => h9) rfl dX10_pays_65 ?_
      refine lv_bipush (v := 64) hx hb dX10_pays_68 (by decide) ?_
      refine lv_iload_n hx hb dX10_pays_70 rfl (lv_at hl 4 rfl) ?_
      refine lv_iadd hx hb dX10_pays_71 ?_
      obtain ⟨hi_5, h⟩ := ob h
      refine va_iald hx hb hK hPD.1 1 1 rfl rfl hi_5 dX10_pays_72 ?_
      refine lv_iload hx hb dX10_pays_73 (lv_at hl 0 rfl) ?_
      refine lv_iadd hx hb dX10_pays_75 ?_
      obtain ⟨hi_6, h⟩ := ob h
      refine va_iast hx hb hK hPD.1 hPD.2 hS 1 1 rfl rfl hi_6 dX10_pays_76 (fun H locs hP hD hS => ?_)
      obtain ⟨A0_7, eA0_7, h⟩ := lvl h
      have hPD : WD G DA (wX10 G h0 a0 f0 A0_7) H := by rw [eA0_7]; exact ⟨hP, hD⟩
      clear eA0_7 hP hD
      refine lv_aload_n hx hb dX10_pays_77 rfl (lv_at hl 1 rfl) ?_
      refine lv_aload_n hx hb dX10_pays_78 rfl (lv_at hl 1 rfl) ?_
      refine va_get (D := G.1) (ci := 10) (v := .int (f0 42)) (C := RX10) (T := TX10) (N := 52) hx hb hts inlX10 hown hK hPD.1 0 rfl rfl 42 (by decide) (hts _ gw_737) (fun _ h9 => h9) rfl dX10_pays_79 ?_
      refine lv_iload hx hb dX10_pays_82 (lv_at hl 0 rfl) ?_
      refine lv_iadd hx hb dX10_pays_84 ?_
      refine va_put (D := G.1) (ci := 10) (v := .int ((f0 42) + (f10_min l2 (999999 - (gx (A0 0) (64 + l3)))))) (ty := .int) (C := RX10) (T := TX10) (N := 52) hx hb hts inlX10 tyX10 tyX10_ok nmX10 hown hK hPD.1 hPD.2 hS 0 rfl rfl 42 (by decide) (hts _ gw_737) (fun _ h9 => h9) rfl (by decide +kernel) rfl rfl (Nat.le_of_ble_eq_true rfl) dX10_pays_85 (fun H locs hP hD hS => ?_)
      obtain ⟨f0_8, ef0_8, h⟩ := lvl h
      have hPD : WD G DA (wX10 G h0 a0 f0_8 A0_7) H := by rw [ef0_8]; exact ⟨hP, hD⟩
      clear ef0_8 hP hD
      refine lv_iinc (v := l3 + 1) (lv' := [(3, .int (l3 + 1)), (4, .int (f10_min l2 (999999 - (gx (A0 0) (64 + l3))))), (0, .ref h0), (1, .int p1), (2, .int l2)]) hx hb dX10_pays_88 hl (k := 4) rfl rfl (by decide) rfl (fun ls hl => ?_)
      refine lv_goto (tgt := 16) hx hb dX10_pays_91 (by decide) ?_
      exact hk16 A0_7 f0_8 l2 (l3 + 1) h _ _ _ hPD hS (lv_sub hl [2, 3, 4, 0] rfl)
    · have h := (if_pos cc1).symm.trans h
      refine lv_goto (tgt := 88) hx hb dX10_pays_34 (by decide) ?_
      refine lv_iinc (v := l3 + 1) (lv' := [(3, .int (l3 + 1)), (0, .ref h0), (1, .int p1), (2, .int l2)]) hx hb dX10_pays_88 hl (k := 3) rfl rfl (by decide) rfl (fun ls hl => ?_)
      refine lv_goto (tgt := 16) hx hb dX10_pays_91 (by decide) ?_
      exact hk16 A0 f0 l2 (l3 + 1) h _ _ _ hPD hS (lv_sub hl [1, 2, 3, 0] rfl)
set_option maxRecDepth 100000 in
set_option maxHeartbeats 4000000 in
theorem ww_f10_pays_l16  (C0 : Cx cX10_pays 5 none RX10 p s m args meth c G DA) {h0 : Nat} {a0 : Nat → Nat} {p1 : Int32}   {res : (Nat → Nat → Int32) × (Nat → Int32)}  : ∀ (n : Nat) (A0 : Nat → Nat → Int32) (f0 : Nat → Int32) (l2 : Int32) (l3 : Int32), f10_pays_l16 p1  n A0 f0 l2 l3 = some res → ∀ (H : Heap) (locs : List Loc) (ls : Array Slot), WD G DA (wX10 G h0 a0 f0 A0) H → va_S DA s.heap H locs → lv_has ls 5 [(0, .ref h0), (1, .int p1), (2, .int l2), (3, .int l3)] → W p l e rmX10_pays s m args below meth c H locs 0 0 (MQ below (QV G DA (wX10 G h0 a0 res.2 res.1)) args s 0 0 DA) (F0 m 16 ls []) := by
  intro n
  induction n with
  | zero => intro A0 f0 l2 l3 h; cases h
  | succ n ih => intro A0 f0 l2 l3 h; exact ww_f10_pays_b16 C0  ih A0 f0 l2 l3 h
set_option maxRecDepth 100000 in
set_option maxHeartbeats 4000000 in
theorem kt_X10_pays (l : Launch) (G : Gp) (h0 : Nat) (a0 : Nat → Nat) (f0 : Nat → Int32) (A0 : Nat → Nat → Int32) (p1 : Int32) : ∀ {r : (Nat → Nat → Int32) × (Nat → Int32)}, f10_pays f0 A0 p1 = some r → CtrV l yX10_pays cX10_pays 5 none rmX10_pays G [.ref h0, .int p1] (wX10 G h0 a0 f0 A0) (wX10 G h0 a0 r.2 r.1) := by
  intro res h
  refine ctrV_of (cc := cX10_pays) (maxL := 5) (ret := none) (by decide +kernel) rfl (Nat.le_of_ble_eq_true rfl) (fun p e s m below meth c DA C0 hP hD ls hl => ?_)
  have hPD : WD G DA (wX10 G h0 a0 f0 A0) s.heap := ⟨hP, hD⟩
  have hS : va_S DA s.heap s.heap [] := va_S.rf
  have hl : lv_has ls 5 [(0, .ref h0), (1, .int p1)] := hl
  obtain ⟨hx, hb, hml, hown, hts⟩ := C0.1
  have hK := C0.2.2.2.1
  unfold f10_pays at h
  refine lv_aload_n hx hb dX10_pays_0 rfl (lv_at hl 0 rfl) ?_
  refine lv_iload_n hx hb dX10_pays_1 rfl (lv_at hl 1 rfl) ?_
  obtain ⟨q_1, hq_1, h⟩ := ob2 h
  refine kVV (As := [.int p1]) (rest := []) C0 (kt_X10_feels l G h0 a0 f0 A0 p1 hq_1) gi_V_X10_297_X10_feels (n := 1) rfl (by decide +kernel) rfl ⟨rfl, rfl, Nat.le_of_ble_eq_true rfl, Nat.le_of_ble_eq_true rfl⟩ hPD hS 0 10 rfl rfl rfl [0, 1, 2, 3, 4, 5, 6, 7, 8, 9, 10, 11, 12, 13, 14, 15, 16, 17, 18, 19, 20, 21, 22, 23, 24, 25, 26, 27, 28, 29, 30, 31, 32, 33] [] [0, 1, 2, 3, 4, 5, 6, 7, 8, 9, 10, 11, 12, 13, 14, 15, 16, 17, 18, 19, 20, 21, 22, 23, 24, 25, 26, 27, 28, 29, 30, 31, 32, 33] (wN := (wX10 G h0 a0 f0 q_1)) rfl rfl rfl rfl rfl hl.1 (Nat.le_of_ble_eq_true rfl) dX10_pays_2 (fun H locs hPD hS => ?_)
  refine lv_aload_n hx hb dX10_pays_5 rfl (lv_at hl 0 rfl) ?_
  refine lv_bipush (v := 119) hx hb dX10_pays_6 (by decide) ?_
  refine lv_bipush (v := 99) hx hb dX10_pays_8 (by decide) ?_
  obtain ⟨q_2, hq_2, h⟩ := ob2 h
  refine kVI (As := [.int 119, .int 99]) (rest := []) C0 (kt_X10_byLaw l G h0 a0 f0 q_1 119 99 hq_2) gi_V_X10_300_X10_byLaw (n := 2) rfl (by decide +kernel) rfl ⟨rfl, rfl, Nat.le_of_ble_eq_true rfl, Nat.le_of_ble_eq_true rfl⟩ hPD hS 0 10 rfl rfl rfl [0, 1, 2, 3, 4, 5, 6, 7, 8, 9, 10, 11, 12, 13, 14, 15, 16, 17, 18, 19, 20, 21, 22, 23, 24, 25, 26, 27, 28, 29, 30, 31, 32, 33] [] [0, 1, 2, 3, 4, 5, 6, 7, 8, 9, 10, 11, 12, 13, 14, 15, 16, 17, 18, 19, 20, 21, 22, 23, 24, 25, 26, 27, 28, 29, 30, 31, 32, 33] (wN := (wX10 G h0 a0 f0 q_2.2)) rfl rfl rfl rfl rfl hl.1 (Nat.le_of_ble_eq_true rfl) dX10_pays_10 (fun H locs hPD hS => ?_)
  refine lv_istore_n (lv' := [(2, .int q_2.1), (0, .ref h0), (1, .int p1)]) hx hb dX10_pays_13 rfl hl (by decide) rfl (fun ls hl => ?_)
  refine lv_iconst (v := 0) hx hb dX10_pays_14 (by decide) ?_
  refine lv_istore_n (lv' := [(3, .int 0), (2, .int q_2.1), (0, .ref h0), (1, .int p1)]) hx hb dX10_pays_15 rfl hl (by decide) rfl (fun ls hl => ?_)
  exact ww_f10_pays_l16 C0 NF q_2.2 f0 q_2.1 0 h _ _ _ hPD hS (lv_sub hl [2, 3, 1, 0] rfl)
abbrev rmX10_turnOf : Room := { frames := 6, cells := 0, slots := 0, locals := 134 }
set_option maxRecDepth 100000 in
set_option maxHeartbeats 4000000 in
theorem kt_X10_turnOf (l : Launch) (G : Gp) (h0 : Nat) (a0 : Nat → Nat) (f0 : Nat → Int32) (A0 : Nat → Nat → Int32) (p1 : Int32) : ∀ {r : (Nat → Nat → Int32) × (Nat → Int32)}, f10_turnOf f0 A0 p1 = some r → CtrV l yX10_turnOf cX10_turnOf 3 none rmX10_turnOf G [.ref h0, .int p1] (wX10 G h0 a0 f0 A0) (wX10 G h0 a0 r.2 r.1) := by
  intro res h
  refine ctrV_of (cc := cX10_turnOf) (maxL := 3) (ret := none) (by decide +kernel) rfl (Nat.le_of_ble_eq_true rfl) (fun p e s m below meth c DA C0 hP hD ls hl => ?_)
  have hPD : WD G DA (wX10 G h0 a0 f0 A0) s.heap := ⟨hP, hD⟩
  have hS : va_S DA s.heap s.heap [] := va_S.rf
  have hl : lv_has ls 3 [(0, .ref h0), (1, .int p1)] := hl
  obtain ⟨hx, hb, hml, hown, hts⟩ := C0.1
  have hK := C0.2.2.2.1
  unfold f10_turnOf at h
  refine lv_aload_n hx hb dX10_turnOf_0 rfl (lv_at hl 0 rfl) ?_
  refine lv_iload_n hx hb dX10_turnOf_1 rfl (lv_at hl 1 rfl) ?_
  obtain ⟨q_1, hq_1, h⟩ := ob2 h
  refine kVV (As := [.int p1]) (rest := []) C0 (kt_X10_feels l G h0 a0 f0 A0 p1 hq_1) gi_V_X10_297_X10_feels (n := 1) rfl (by decide +kernel) rfl ⟨rfl, rfl, Nat.le_of_ble_eq_true rfl, Nat.le_of_ble_eq_true rfl⟩ hPD hS 0 10 rfl rfl rfl [0, 1, 2, 3, 4, 5, 6, 7, 8, 9, 10, 11, 12, 13, 14, 15, 16, 17, 18, 19, 20, 21, 22, 23, 24, 25, 26, 27, 28, 29, 30, 31, 32, 33] [] [0, 1, 2, 3, 4, 5, 6, 7, 8, 9, 10, 11, 12, 13, 14, 15, 16, 17, 18, 19, 20, 21, 22, 23, 24, 25, 26, 27, 28, 29, 30, 31, 32, 33] (wN := (wX10 G h0 a0 f0 q_1)) rfl rfl rfl rfl rfl hl.1 (Nat.le_of_ble_eq_true rfl) dX10_turnOf_2 (fun H locs hPD hS => ?_)
  refine lv_aload_n hx hb dX10_turnOf_5 rfl (lv_at hl 0 rfl) ?_
  refine lv_bipush (v := 115) hx hb dX10_turnOf_6 (by decide) ?_
  obtain ⟨q_2, hq_2, h⟩ := ob2 h
  refine kVI (As := [.int 115]) (rest := []) C0 (kt_X10_holdsAny l G h0 a0 f0 q_1 115 hq_2) gi_V_X10_307_X10_holdsAny (n := 1) rfl (by decide +kernel) rfl ⟨rfl, rfl, Nat.le_of_ble_eq_true rfl, Nat.le_of_ble_eq_true rfl⟩ hPD hS 0 10 rfl rfl rfl [0, 1, 2, 3, 4, 5, 6, 7, 8, 9, 10, 11, 12, 13, 14, 15, 16, 17, 18, 19, 20, 21, 22, 23, 24, 25, 26, 27, 28, 29, 30, 31, 32, 33] [] [0, 1, 2, 3, 4, 5, 6, 7, 8, 9, 10, 11, 12, 13, 14, 15, 16, 17, 18, 19, 20, 21, 22, 23, 24, 25, 26, 27, 28, 29, 30, 31, 32, 33] (wN := (wX10 G h0 a0 f0 q_2.2)) rfl rfl rfl rfl rfl hl.1 (Nat.le_of_ble_eq_true rfl) dX10_turnOf_8 (fun H locs hPD hS => ?_)
  refine lv_if_eq (tgt := 15) hx hb dX10_turnOf_11 (by decide) (fun cc1 => ?_) (fun cc1 => ?_)
  · have h := (if_pos cc1).symm.trans h
    refine lv_aload_n hx hb dX10_turnOf_15 rfl (lv_at hl 0 rfl) ?_
    refine lv_bipush (v := 114) hx hb dX10_turnOf_16 (by decide) ?_
    refine lv_bipush (v := 10) hx hb dX10_turnOf_18 (by decide) ?_
    obtain ⟨q_3, hq_3, h⟩ := ob2 h
    refine kVI (As := [.int 114, .int 10]) (rest := []) C0 (kt_X10_byLaw l G h0 a0 f0 q_2.2 114 10 hq_3) gi_V_X10_300_X10_byLaw (n := 2) rfl (by decide +kernel) rfl ⟨rfl, rfl, Nat.le_of_ble_eq_true rfl, Nat.le_of_ble_eq_true rfl⟩ hPD hS 0 10 rfl rfl rfl [0, 1, 2, 3, 4, 5, 6, 7, 8, 9, 10, 11, 12, 13, 14, 15, 16, 17, 18, 19, 20, 21, 22, 23, 24, 25, 26, 27, 28, 29, 30, 31, 32, 33] [] [0, 1, 2, 3, 4, 5, 6, 7, 8, 9, 10, 11, 12, 13, 14, 15, 16, 17, 18, 19, 20, 21, 22, 23, 24, 25, 26, 27, 28, 29, 30, 31, 32, 33] (wN := (wX10 G h0 a0 f0 q_3.2)) rfl rfl rfl rfl rfl hl.1 (Nat.le_of_ble_eq_true rfl) dX10_turnOf_20 (fun H locs hPD hS => ?_)
    refine lv_istore_n (lv' := [(2, .int q_3.1), (0, .ref h0), (1, .int p1)]) hx hb dX10_turnOf_23 rfl hl (by decide) rfl (fun ls hl => ?_)
    refine lv_aload_n hx hb dX10_turnOf_24 rfl (lv_at hl 1 rfl) ?_
    refine va_get (D := G.1) (ci := 10) (v := .ref (a0 0)) (C := RX10) (T := TX10) (N := 52) hx hb hts inlX10 hown hK hPD.1 0 rfl rfl 0 (by decide) (hts _ gw_539) (fun _ h9 => h9) rfl dX10_turnOf_25 ?_
    refine lv_bipush (v := 75) hx hb dX10_turnOf_28 (by decide) ?_
    refine lv_sipush (v := 25173) hx hb dX10_turnOf_30 (by decide) ?_
    refine lv_aload_n hx hb dX10_turnOf_33 rfl (lv_at hl 1 rfl) ?_
    refine va_get (D := G.1) (ci := 10) (v := .ref (a0 0)) (C := RX10) (T := TX10) (N := 52) hx hb hts inlX10 hown hK hPD.1 0 rfl rfl 0 (by decide) (hts _ gw_539) (fun _ h9 => h9) rfl dX10_turnOf_34 ?_
    refine lv_bipush (v := 75) hx hb dX10_turnOf_37 (by decide) ?_
    refine va_iald hx hb hK hPD.1 1 1 rfl rfl (vin rfl) dX10_turnOf_39 ?_
    refine lv_imul hx hb dX10_turnOf_40 ?_
    refine lv_sipush (v := 13849) hx hb dX10_turnOf_41 (by decide) ?_
    refine lv_iadd hx hb dX10_turnOf_44 ?_
    refine lv_ldcw (v := 65536) hx hb hown (hts _ gw_742) dX10_turnOf_45 ?_
    refine lv_irem hx hb dX10_turnOf_48 (by decide) ?_
    refine va_iast hx hb hK hPD.1 hPD.2 hS 1 1 rfl rfl (vin rfl) dX10_turnOf_49 (fun H locs hP hD hS => ?_)
    obtain ⟨A0_4, eA0_4, h⟩ := lvl h
    have hPD : WD G DA (wX10 G h0 a0 f0 A0_4) H := by rw [eA0_4]; exact ⟨hP, hD⟩
    clear eA0_4 hP hD
    refine lv_aload_n hx hb dX10_turnOf_50 rfl (lv_at hl 1 rfl) ?_
    refine lv_iload_n hx hb dX10_turnOf_51 rfl (lv_at hl 2 rfl) ?_
    obtain ⟨q_5, hq_5, h⟩ := ob2 h
    refine kVI (As := [.int p1]) (rest := []) C0 (kt_X10_menAt l G h0 a0 f0 A0_4 p1 hq_5) gi_V_X10_241_X10_menAt (n := 1) rfl (by decide +kernel) rfl ⟨rfl, rfl, Nat.le_of_ble_eq_true rfl, Nat.le_of_ble_eq_true rfl⟩ hPD hS 0 10 rfl rfl rfl [0, 1, 2, 3, 4, 5, 6, 7, 8, 9, 10, 11, 12, 13, 14, 15, 16, 17, 18, 19, 20, 21, 22, 23, 24, 25, 26, 27, 28, 29, 30, 31, 32, 33] [] [0, 1, 2, 3, 4, 5, 6, 7, 8, 9, 10, 11, 12, 13, 14, 15, 16, 17, 18, 19, 20, 21, 22, 23, 24, 25, 26, 27, 28, 29, 30, 31, 32, 33] (wN := (wX10 G h0 a0 f0 A0_4)) rfl rfl rfl rfl rfl hl.1 (Nat.le_of_ble_eq_true rfl) dX10_turnOf_52 (fun H locs hPD hS => ?_)
    refine lv_if_eq (tgt := 66) hx hb dX10_turnOf_55 (by decide) (fun cc1 => ?_) (fun cc1 => ?_)
    · have h := (if_pos cc1).symm.trans h
      refine lv_aload_n hx hb dX10_turnOf_66 rfl (lv_at hl 1 rfl) ?_
      refine va_get (D := G.1) (ci := 10) (v := .ref (a0 0)) (C := RX10) (T := TX10) (N := 52) hx hb hts inlX10 hown hK hPD.1 0 rfl rfl 0 (by decide) (hts _ gw_539) (fun _ h9 => h9) rfl dX10_turnOf_67 ?_
      refine lv_bipush (v := 75) hx hb dX10_turnOf_70 (by decide) ?_
      refine va_iald hx hb hK hPD.1 1 1 rfl rfl (vin rfl) dX10_turnOf_72 ?_
      refine lv_bipush (v := 10) hx hb dX10_turnOf_73 (by decide) ?_
      refine lv_irem hx hb dX10_turnOf_75 (by decide) ?_
      refine lv_iload_n hx hb dX10_turnOf_76 rfl (lv_at hl 0 rfl) ?_
      refine lv_icmp_ge (tgt := 142) hx hb dX10_turnOf_77 (by decide) (fun cc1 => ?_) (fun cc1 => ?_)
      · have h := (if_pos cc1).symm.trans h
        obtain rfl := Option.some.inj h
        exact eV C0 hPD.1 hPD.2 hS dX10_turnOf_142
      · have h := (if_neg cc1).symm.trans h
        refine lv_aload_n hx hb dX10_turnOf_80 rfl (lv_at hl 1 rfl) ?_
        refine va_get (D := G.1) (ci := 10) (v := .ref (a0 0)) (C := RX10) (T := TX10) (N := 52) hx hb hts inlX10 hown hK hPD.1 0 rfl rfl 0 (by decide) (hts _ gw_539) (fun _ h9 => h9) rfl dX10_turnOf_81 ?_
        refine lv_bipush (v := 73) hx hb dX10_turnOf_84 (by decide) ?_
        refine lv_sipush (v := 9999) hx hb dX10_turnOf_86 (by decide) ?_
        refine lv_aload_n hx hb dX10_turnOf_89 rfl (lv_at hl 1 rfl) ?_
        refine va_get (D := G.1) (ci := 10) (v := .ref (a0 0)) (C := RX10) (T := TX10) (N := 52) hx hb hts inlX10 hown hK hPD.1 0 rfl rfl 0 (by decide) (hts _ gw_539) (fun _ h9 => h9) rfl dX10_turnOf_90 ?_
        refine lv_bipush (v := 73) hx hb dX10_turnOf_93 (by decide) ?_
        refine va_iald hx hb hK hPD.1 1 1 rfl rfl (vin rfl) dX10_turnOf_95 ?_
        refine lv_iconst (v := 1) hx hb dX10_turnOf_96 (by decide) ?_
        refine lv_iadd hx hb dX10_turnOf_97 ?_
        refine kSI (As := [.int 9999, .int ((gx (A0_4 0) 73) + 1)]) (rest := [.int 73, .ref (a0 0)]) C0 (kt_X10_min l G  9999 ((gx (A0_4 0) 73) + 1)) gi_S_X10_284_X10_min (n := 2) rfl (by decide +kernel) ⟨rfl, rfl, Nat.le_of_ble_eq_true rfl, Nat.le_of_ble_eq_true rfl⟩ hPD hS [] [0, 1, 2, 3, 4, 5, 6, 7, 8, 9, 10, 11, 12, 13, 14, 15, 16, 17, 18, 19, 20, 21, 22, 23, 24, 25, 26, 27, 28, 29, 30, 31, 32, 33] [0, 1, 2, 3, 4, 5, 6, 7, 8, 9, 10, 11, 12, 13, 14, 15, 16, 17, 18, 19, 20, 21, 22, 23, 24, 25, 26, 27, 28, 29, 30, 31, 32, 33] (wN := (wX10 G h0 a0 f0 A0_4)) rfl rfl rfl rfl rfl hl.1 (Nat.le_of_ble_eq_true rfl) dX10_turnOf_98 (fun H locs hPD hS => ?_)
        refine va_iast hx hb hK hPD.1 hPD.2 hS 1 1 rfl rfl (vin rfl) dX10_turnOf_101 (fun H locs hP hD hS => ?_)
        obtain ⟨A0_6, eA0_6, h⟩ := lvl h
        have hPD : WD G DA (wX10 G h0 a0 f0 A0_6) H := by rw [eA0_6]; exact ⟨hP, hD⟩
        clear eA0_6 hP hD
        refine lv_aload_n hx hb dX10_turnOf_102 rfl (lv_at hl 1 rfl) ?_
        refine va_get (D := G.1) (ci := 10) (v := .ref (a0 0)) (C := RX10) (T := TX10) (N := 52) hx hb hts inlX10 hown hK hPD.1 0 rfl rfl 0 (by decide) (hts _ gw_539) (fun _ h9 => h9) rfl dX10_turnOf_103 ?_
        refine lv_bipush (v := 72) hx hb dX10_turnOf_106 (by decide) ?_
        refine lv_ldcw (v := 999999) hx hb hown (hts _ gw_736) dX10_turnOf_108 ?_
        refine lv_aload_n hx hb dX10_turnOf_111 rfl (lv_at hl 1 rfl) ?_
        refine va_get (D := G.1) (ci := 10) (v := .ref (a0 0)) (C := RX10) (T := TX10) (N := 52) hx hb hts inlX10 hown hK hPD.1 0 rfl rfl 0 (by decide) (hts _ gw_539) (fun _ h9 => h9) rfl dX10_turnOf_112 ?_
        refine lv_bipush (v := 72) hx hb dX10_turnOf_115 (by decide) ?_
        refine va_iald hx hb hK hPD.1 1 1 rfl rfl (vin rfl) dX10_turnOf_117 ?_
        refine lv_aload_n hx hb dX10_turnOf_118 rfl (lv_at hl 1 rfl) ?_
        refine va_get (D := G.1) (ci := 10) (v := .ref (a0 0)) (C := RX10) (T := TX10) (N := 52) hx hb hts inlX10 hown hK hPD.1 0 rfl rfl 0 (by decide) (hts _ gw_539) (fun _ h9 => h9) rfl dX10_turnOf_119 ?_
        refine lv_bipush (v := 16) hx hb dX10_turnOf_122 (by decide) ?_
        refine lv_iload_n hx hb dX10_turnOf_124 rfl (lv_at hl 2 rfl) ?_
        refine lv_iadd hx hb dX10_turnOf_125 ?_
        obtain ⟨hi_7, h⟩ := ob h
        refine va_iald hx hb hK hPD.1 1 1 rfl rfl hi_7 dX10_turnOf_126 ?_
        refine lv_iadd hx hb dX10_turnOf_127 ?_
        refine kSI (As := [.int 999999, .int ((gx (A0_6 0) 72) + (gx (A0_6 0) (16 + p1)))]) (rest := [.int 72, .ref (a0 0)]) C0 (kt_X10_min l G  999999 ((gx (A0_6 0) 72) + (gx (A0_6 0) (16 + p1)))) gi_S_X10_284_X10_min (n := 2) rfl (by decide +kernel) ⟨rfl, rfl, Nat.le_of_ble_eq_true rfl, Nat.le_of_ble_eq_true rfl⟩ hPD hS [] [0, 1, 2, 3, 4, 5, 6, 7, 8, 9, 10, 11, 12, 13, 14, 15, 16, 17, 18, 19, 20, 21, 22, 23, 24, 25, 26, 27, 28, 29, 30, 31, 32, 33] [0, 1, 2, 3, 4, 5, 6, 7, 8, 9, 10, 11, 12, 13, 14, 15, 16, 17, 18, 19, 20, 21, 22, 23, 24, 25, 26, 27, 28, 29, 30, 31, 32, 33] (wN := (wX10 G h0 a0 f0 A0_6)) rfl rfl rfl rfl rfl hl.1 (Nat.le_of_ble_eq_true rfl) dX10_turnOf_128 (fun H locs hPD hS => ?_)
        refine va_iast hx hb hK hPD.1 hPD.2 hS 1 1 rfl rfl (vin rfl) dX10_turnOf_131 (fun H locs hP hD hS => ?_)
        obtain ⟨A0_8, eA0_8, h⟩ := lvl h
        have hPD : WD G DA (wX10 G h0 a0 f0 A0_8) H := by rw [eA0_8]; exact ⟨hP, hD⟩
        clear eA0_8 hP hD
        refine lv_aload_n hx hb dX10_turnOf_132 rfl (lv_at hl 1 rfl) ?_
        refine lv_aload_n hx hb dX10_turnOf_133 rfl (lv_at hl 1 rfl) ?_
        refine va_get (D := G.1) (ci := 10) (v := .int (f0 41)) (C := RX10) (T := TX10) (N := 52) hx hb hts inlX10 hown hK hPD.1 0 rfl rfl 41 (by decide) (hts _ gw_743) (fun _ h9 => h9) rfl dX10_turnOf_134 ?_
        refine lv_iconst (v := 1) hx hb dX10_turnOf_137 (by decide) ?_
        refine lv_iadd hx hb dX10_turnOf_138 ?_
        refine va_put (D := G.1) (ci := 10) (v := .int ((f0 41) + 1)) (ty := .int) (C := RX10) (T := TX10) (N := 52) hx hb hts inlX10 tyX10 tyX10_ok nmX10 hown hK hPD.1 hPD.2 hS 0 rfl rfl 41 (by decide) (hts _ gw_743) (fun _ h9 => h9) rfl (by decide +kernel) rfl rfl (Nat.le_of_ble_eq_true rfl) dX10_turnOf_139 (fun H locs hP hD hS => ?_)
        obtain ⟨f0_9, ef0_9, h⟩ := lvl h
        have hPD : WD G DA (wX10 G h0 a0 f0_9 A0_8) H := by rw [ef0_9]; exact ⟨hP, hD⟩
        clear ef0_9 hP hD
        obtain rfl := Option.some.inj h
        exact eV C0 hPD.1 hPD.2 hS dX10_turnOf_142
    · have h := (if_neg cc1).symm.trans h
      refine lv_aload_n hx hb dX10_turnOf_58 rfl (lv_at hl 1 rfl) ?_
      refine lv_iload_n hx hb dX10_turnOf_59 rfl (lv_at hl 2 rfl) ?_
      obtain ⟨q_10, hq_10, h⟩ := ob2 h
      refine kVV (As := [.int p1]) (rest := []) C0 (kt_X10_pays l G h0 a0 f0 A0_4 p1 hq_10) gi_V_X10_311_X10_pays (n := 1) rfl (by decide +kernel) rfl ⟨rfl, rfl, Nat.le_of_ble_eq_true rfl, Nat.le_of_ble_eq_true rfl⟩ hPD hS 0 10 rfl rfl rfl [0, 1, 2, 3, 4, 5, 6, 7, 8, 9, 10, 11, 12, 13, 14, 15, 16, 17, 18, 19, 20, 21, 22, 23, 24, 25, 26, 27, 28, 29, 30, 31, 32, 33] [] [0, 1, 2, 3, 4, 5, 6, 7, 8, 9, 10, 11, 12, 13, 14, 15, 16, 17, 18, 19, 20, 21, 22, 23, 24, 25, 26, 27, 28, 29, 30, 31, 32, 33] (wN := (wX10 G h0 a0 q_10.2 q_10.1)) rfl rfl rfl rfl rfl hl.1 (Nat.le_of_ble_eq_true rfl) dX10_turnOf_60 (fun H locs hPD hS => ?_)
      refine lv_goto (tgt := 142) hx hb dX10_turnOf_63 (by decide) ?_
      obtain rfl := Option.some.inj h
      exact eV C0 hPD.1 hPD.2 hS dX10_turnOf_142
  · have h := (if_neg cc1).symm.trans h
    obtain rfl := Option.some.inj h
    exact eV C0 hPD.1 hPD.2 hS dX10_turnOf_14
abbrev rmX10_hourGoes : Room := { frames := 7, cells := 0, slots := 0, locals := 156 }
set_option maxRecDepth 100000 in
set_option maxHeartbeats 4000000 in
theorem ww_f10_hourGoes_b80  (C0 : Cx cX10_hourGoes 2 none RX10 p s m args meth c G DA) {h0 : Nat} {a0 : Nat → Nat}  {k80 : (Nat → Nat → Int32) → (Nat → Int32) → Int32 → Option ((Nat → Nat → Int32) × (Nat → Int32))} {res : (Nat → Nat → Int32) × (Nat → Int32)}  (hk80 : ∀ (A0 : Nat → Nat → Int32) (f0 : Nat → Int32) (l1 : Int32), k80 A0 f0 l1 = some res → ∀ (H : Heap) (locs : List Loc) (ls : Array Slot), WD G DA (wX10 G h0 a0 f0 A0) H → va_S DA s.heap H locs → lv_has ls 2 [(0, .ref h0), (1, .int l1)] → W p l e rmX10_hourGoes s m args below meth c H locs 0 0 (MQ below (QV G DA (wX10 G h0 a0 res.2 res.1)) args s 0 0 DA) (F0 m 80 ls [])) : ∀ (A0 : Nat → Nat → Int32) (f0 : Nat → Int32) (l1 : Int32), f10_hourGoes_b80   k80 A0 f0 l1 = some res → ∀ (H : Heap) (locs : List Loc) (ls : Array Slot), WD G DA (wX10 G h0 a0 f0 A0) H → va_S DA s.heap H locs → lv_has ls 2 [(0, .ref h0), (1, .int l1)] → W p l e rmX10_hourGoes s m args below meth c H locs 0 0 (MQ below (QV G DA (wX10 G h0 a0 res.2 res.1)) args s 0 0 DA) (F0 m 80 ls []) := by
  obtain ⟨hx, hb, hml, hown, hts⟩ := C0.1
  have hK := C0.2.2.2.1
  intro A0 f0 l1 h _ _ _ hPD hS hl
  unfold f10_hourGoes_b80 at h
  refine lv_iload_n hx hb dX10_hourGoes_80 rfl (lv_at hl 1 rfl) ?_
  refine lv_bipush (v := 16) hx hb dX10_hourGoes_81 (by decide) ?_
  refine lv_icmp_ge (tgt := 105) hx hb dX10_hourGoes_83 (by decide) (fun cc1 => ?_) (fun cc1 => ?_)
  · have h := (if_pos cc1).symm.trans h
    refine lv_aload_n hx hb dX10_hourGoes_105 rfl (lv_at hl 0 rfl) ?_
    refine va_get (D := G.1) (ci := 10) (v := .ref (a0 0)) (C := RX10) (T := TX10) (N := 52) hx hb hts inlX10 hown hK hPD.1 0 rfl rfl 0 (by decide) (hts _ gw_539) (fun _ h9 => h9) rfl dX10_hourGoes_106 ?_
    refine lv_bipush (v := 74) hx hb dX10_hourGoes_109 (by decide) ?_
    refine lv_aload_n hx hb dX10_hourGoes_111 rfl (lv_at hl 0 rfl) ?_
    refine va_get (D := G.1) (ci := 10) (v := .ref (a0 0)) (C := RX10) (T := TX10) (N := 52) hx hb hts inlX10 hown hK hPD.1 0 rfl rfl 0 (by decide) (hts _ gw_539) (fun _ h9 => h9) rfl dX10_hourGoes_112 ?_
    refine lv_bipush (v := 74) hx hb dX10_hourGoes_115 (by decide) ?_
    refine va_iald hx hb hK hPD.1 1 1 rfl rfl (vin rfl) dX10_hourGoes_117 ?_
    refine lv_iconst (v := 1) hx hb dX10_hourGoes_118 (by decide) ?_
    refine lv_iadd hx hb dX10_hourGoes_119 ?_
    refine va_iast hx hb hK hPD.1 hPD.2 hS 1 1 rfl rfl (vin rfl) dX10_hourGoes_120 (fun H locs hP hD hS => ?_)
    obtain ⟨A0_1, eA0_1, h⟩ := lvl h
    have hPD : WD G DA (wX10 G h0 a0 f0 A0_1) H := by rw [eA0_1]; exact ⟨hP, hD⟩
    clear eA0_1 hP hD
    obtain rfl := Option.some.inj h
    exact eV C0 hPD.1 hPD.2 hS dX10_hourGoes_121
  · have h := (if_neg cc1).symm.trans h
    refine lv_aload_n hx hb dX10_hourGoes_86 rfl (lv_at hl 0 rfl) ?_
    refine lv_iload_n hx hb dX10_hourGoes_87 rfl (lv_at hl 1 rfl) ?_
    refine kVI (As := [.int l1]) (rest := []) C0 (kt_X10_isTold l G h0 a0 f0 A0 l1) gi_V_X10_128_X10_isTold (n := 1) rfl (by decide +kernel) rfl ⟨rfl, rfl, Nat.le_of_ble_eq_true rfl, Nat.le_of_ble_eq_true rfl⟩ hPD hS 0 10 rfl rfl rfl [0, 1, 2, 3, 4, 5, 6, 7, 8, 9, 10, 11, 12, 13, 14, 15, 16, 17, 18, 19, 20, 21, 22, 23, 24, 25, 26, 27, 28, 29, 30, 31, 32, 33] [] [0, 1, 2, 3, 4, 5, 6, 7, 8, 9, 10, 11, 12, 13, 14, 15, 16, 17, 18, 19, 20, 21, 22, 23, 24, 25, 26, 27, 28, 29, 30, 31, 32, 33] (wN := (wX10 G h0 a0 f0 A0)) rfl rfl rfl rfl rfl hl.1 (Nat.le_of_ble_eq_true rfl) dX10_hourGoes_88 (fun H locs hPD hS => ?_)
    refine lv_if_eq (tgt := 99) hx hb dX10_hourGoes_91 (by decide) (fun cc1 => ?_) (fun cc1 => ?_)
    · have h := (if_pos cc1).symm.trans h
      refine lv_iinc (v := l1 + 1) (lv' := [(1, .int (l1 + 1)), (0, .ref h0)]) hx hb dX10_hourGoes_99 hl (k := 1) rfl rfl (by decide) rfl (fun ls hl => ?_)
      refine lv_goto (tgt := 80) hx hb dX10_hourGoes_102 (by decide) ?_
      exact hk80 A0 f0 (l1 + 1) h _ _ _ hPD hS (lv_sub hl [1, 0] rfl)
    · have h := (if_neg cc1).symm.trans h
      refine lv_aload_n hx hb dX10_hourGoes_94 rfl (lv_at hl 0 rfl) ?_
      refine lv_iload_n hx hb dX10_hourGoes_95 rfl (lv_at hl 1 rfl) ?_
      obtain ⟨q_2, hq_2, h⟩ := ob2 h
      refine kVV (As := [.int l1]) (rest := []) C0 (kt_X10_turnOf l G h0 a0 f0 A0 l1 hq_2) gi_V_X10_320_X10_turnOf (n := 1) rfl (by decide +kernel) rfl ⟨rfl, rfl, Nat.le_of_ble_eq_true rfl, Nat.le_of_ble_eq_true rfl⟩ hPD hS 0 10 rfl rfl rfl [0, 1, 2, 3, 4, 5, 6, 7, 8, 9, 10, 11, 12, 13, 14, 15, 16, 17, 18, 19, 20, 21, 22, 23, 24, 25, 26, 27, 28, 29, 30, 31, 32, 33] [] [0, 1, 2, 3, 4, 5, 6, 7, 8, 9, 10, 11, 12, 13, 14, 15, 16, 17, 18, 19, 20, 21, 22, 23, 24, 25, 26, 27, 28, 29, 30, 31, 32, 33] (wN := (wX10 G h0 a0 q_2.2 q_2.1)) rfl rfl rfl rfl rfl hl.1 (Nat.le_of_ble_eq_true rfl) dX10_hourGoes_96 (fun H locs hPD hS => ?_)
      refine lv_iinc (v := l1 + 1) (lv' := [(1, .int (l1 + 1)), (0, .ref h0)]) hx hb dX10_hourGoes_99 hl (k := 1) rfl rfl (by decide) rfl (fun ls hl => ?_)
      refine lv_goto (tgt := 80) hx hb dX10_hourGoes_102 (by decide) ?_
      exact hk80 q_2.1 q_2.2 (l1 + 1) h _ _ _ hPD hS (lv_sub hl [1, 0] rfl)
set_option maxRecDepth 100000 in
set_option maxHeartbeats 4000000 in
theorem ww_f10_hourGoes_l80  (C0 : Cx cX10_hourGoes 2 none RX10 p s m args meth c G DA) {h0 : Nat} {a0 : Nat → Nat}   {res : (Nat → Nat → Int32) × (Nat → Int32)}  : ∀ (n : Nat) (A0 : Nat → Nat → Int32) (f0 : Nat → Int32) (l1 : Int32), f10_hourGoes_l80   n A0 f0 l1 = some res → ∀ (H : Heap) (locs : List Loc) (ls : Array Slot), WD G DA (wX10 G h0 a0 f0 A0) H → va_S DA s.heap H locs → lv_has ls 2 [(0, .ref h0), (1, .int l1)] → W p l e rmX10_hourGoes s m args below meth c H locs 0 0 (MQ below (QV G DA (wX10 G h0 a0 res.2 res.1)) args s 0 0 DA) (F0 m 80 ls []) := by
  intro n
  induction n with
  | zero => intro A0 f0 l1 h; cases h
  | succ n ih => intro A0 f0 l1 h; exact ww_f10_hourGoes_b80 C0  ih A0 f0 l1 h
set_option maxRecDepth 100000 in
set_option maxHeartbeats 4000000 in
theorem ww_f10_hourGoes_b21  (C0 : Cx cX10_hourGoes 2 none RX10 p s m args meth c G DA) {h0 : Nat} {a0 : Nat → Nat}  {k21 : (Nat → Nat → Int32) → (Nat → Int32) → Int32 → Option ((Nat → Nat → Int32) × (Nat → Int32))} {res : (Nat → Nat → Int32) × (Nat → Int32)}  (hk21 : ∀ (A0 : Nat → Nat → Int32) (f0 : Nat → Int32) (l1 : Int32), k21 A0 f0 l1 = some res → ∀ (H : Heap) (locs : List Loc) (ls : Array Slot), WD G DA (wX10 G h0 a0 f0 A0) H → va_S DA s.heap H locs → lv_has ls 2 [(0, .ref h0), (1, .int l1)] → W p l e rmX10_hourGoes s m args below meth c H locs 0 0 (MQ below (QV G DA (wX10 G h0 a0 res.2 res.1)) args s 0 0 DA) (F0 m 21 ls [])) : ∀ (A0 : Nat → Nat → Int32) (f0 : Nat → Int32) (l1 : Int32), f10_hourGoes_b21   k21 A0 f0 l1 = some res → ∀ (H : Heap) (locs : List Loc) (ls : Array Slot), WD G DA (wX10 G h0 a0 f0 A0) H → va_S DA s.heap H locs → lv_has ls 2 [(0, .ref h0), (1, .int l1)] → W p l e rmX10_hourGoes s m args below meth c H locs 0 0 (MQ below (QV G DA (wX10 G h0 a0 res.2 res.1)) args s 0 0 DA) (F0 m 21 ls []) := by
  obtain ⟨hx, hb, hml, hown, hts⟩ := C0.1
  have hK := C0.2.2.2.1
  intro A0 f0 l1 h _ _ _ hPD hS hl
  unfold f10_hourGoes_b21 at h
  refine lv_iload_n hx hb dX10_hourGoes_21 rfl (lv_at hl 1 rfl) ?_
  refine lv_bipush (v := 16) hx hb dX10_hourGoes_22 (by decide) ?_
  refine lv_icmp_ge (tgt := 78) hx hb dX10_hourGoes_24 (by decide) (fun cc1 => ?_) (fun cc1 => ?_)
  · have h := (if_pos cc1).symm.trans h
    refine lv_iconst (v := 0) hx hb dX10_hourGoes_78 (by decide) ?_
    refine lv_istore_n (lv' := [(1, .int 0), (0, .ref h0)]) hx hb dX10_hourGoes_79 rfl hl (by decide) rfl (fun ls hl => ?_)
    exact ww_f10_hourGoes_l80 C0 NF A0 f0 0 h _ _ _ hPD hS (lv_sub hl [1, 0] rfl)
  · have h := (if_neg cc1).symm.trans h
    refine lv_aload_n hx hb dX10_hourGoes_27 rfl (lv_at hl 0 rfl) ?_
    refine lv_iload_n hx hb dX10_hourGoes_28 rfl (lv_at hl 1 rfl) ?_
    refine kVI (As := [.int l1]) (rest := []) C0 (kt_X10_isTold l G h0 a0 f0 A0 l1) gi_V_X10_128_X10_isTold (n := 1) rfl (by decide +kernel) rfl ⟨rfl, rfl, Nat.le_of_ble_eq_true rfl, Nat.le_of_ble_eq_true rfl⟩ hPD hS 0 10 rfl rfl rfl [0, 1, 2, 3, 4, 5, 6, 7, 8, 9, 10, 11, 12, 13, 14, 15, 16, 17, 18, 19, 20, 21, 22, 23, 24, 25, 26, 27, 28, 29, 30, 31, 32, 33] [] [0, 1, 2, 3, 4, 5, 6, 7, 8, 9, 10, 11, 12, 13, 14, 15, 16, 17, 18, 19, 20, 21, 22, 23, 24, 25, 26, 27, 28, 29, 30, 31, 32, 33] (wN := (wX10 G h0 a0 f0 A0)) rfl rfl rfl rfl rfl hl.1 (Nat.le_of_ble_eq_true rfl) dX10_hourGoes_29 (fun H locs hPD hS => ?_)
    refine lv_if_eq (tgt := 72) hx hb dX10_hourGoes_32 (by decide) (fun cc1 => ?_) (fun cc1 => ?_)
    · have h := (if_pos cc1).symm.trans h
      refine lv_iinc (v := l1 + 1) (lv' := [(1, .int (l1 + 1)), (0, .ref h0)]) hx hb dX10_hourGoes_72 hl (k := 1) rfl rfl (by decide) rfl (fun ls hl => ?_)
      refine lv_goto (tgt := 21) hx hb dX10_hourGoes_75 (by decide) ?_
      exact hk21 A0 f0 (l1 + 1) h _ _ _ hPD hS (lv_sub hl [1, 0] rfl)
    · have h := (if_neg cc1).symm.trans h
      refine lv_aload_n hx hb dX10_hourGoes_35 rfl (lv_at hl 0 rfl) ?_
      refine va_get (D := G.1) (ci := 10) (v := .ref (a0 0)) (C := RX10) (T := TX10) (N := 52) hx hb hts inlX10 hown hK hPD.1 0 rfl rfl 0 (by decide) (hts _ gw_539) (fun _ h9 => h9) rfl dX10_hourGoes_36 ?_
      refine lv_bipush (v := 32) hx hb dX10_hourGoes_39 (by decide) ?_
      refine lv_iload_n hx hb dX10_hourGoes_41 rfl (lv_at hl 1 rfl) ?_
      refine lv_iadd hx hb dX10_hourGoes_42 ?_
      refine lv_aload_n hx hb dX10_hourGoes_43 rfl (lv_at hl 0 rfl) ?_
      refine lv_iload_n hx hb dX10_hourGoes_44 rfl (lv_at hl 1 rfl) ?_
      obtain ⟨q_3, hq_3, h⟩ := ob2 h
      refine kVI (As := [.int l1]) (rest := [.int (32 + l1), .ref (a0 0)]) C0 (kt_X10_menAt l G h0 a0 f0 A0 l1 hq_3) gi_V_X10_241_X10_menAt (n := 1) rfl (by decide +kernel) rfl ⟨rfl, rfl, Nat.le_of_ble_eq_true rfl, Nat.le_of_ble_eq_true rfl⟩ hPD hS 0 10 rfl rfl rfl [0, 1, 2, 3, 4, 5, 6, 7, 8, 9, 10, 11, 12, 13, 14, 15, 16, 17, 18, 19, 20, 21, 22, 23, 24, 25, 26, 27, 28, 29, 30, 31, 32, 33] [] [0, 1, 2, 3, 4, 5, 6, 7, 8, 9, 10, 11, 12, 13, 14, 15, 16, 17, 18, 19, 20, 21, 22, 23, 24, 25, 26, 27, 28, 29, 30, 31, 32, 33] (wN := (wX10 G h0 a0 f0 A0)) rfl rfl rfl rfl rfl hl.1 (Nat.le_of_ble_eq_true rfl) dX10_hourGoes_45 (fun H locs hPD hS => ?_)
      refine lv_if_eq (tgt := 55) hx hb dX10_hourGoes_48 (by decide) (fun cc1 => ?_) (fun cc1 => ?_)
      · have h := (if_pos cc1).symm.trans h
        refine lv_bipush (v := 99) hx hb dX10_hourGoes_55 (by decide) ?_
        refine lv_aload_n hx hb dX10_hourGoes_57 rfl (lv_at hl 0 rfl) ?_
        refine va_get (D := G.1) (ci := 10) (v := .ref (a0 0)) (C := RX10) (T := TX10) (N := 52) hx hb hts inlX10 hown hK hPD.1 0 rfl rfl 0 (by decide) (hts _ gw_539) (fun _ h9 => h9) rfl dX10_hourGoes_58 ?_
        refine lv_bipush (v := 32) hx hb dX10_hourGoes_61 (by decide) ?_
        refine lv_iload_n hx hb dX10_hourGoes_63 rfl (lv_at hl 1 rfl) ?_
        refine lv_iadd hx hb dX10_hourGoes_64 ?_
        obtain ⟨hi_4, h⟩ := ob h
        refine va_iald hx hb hK hPD.1 1 1 rfl rfl hi_4 dX10_hourGoes_65 ?_
        refine lv_iconst (v := 1) hx hb dX10_hourGoes_66 (by decide) ?_
        refine lv_iadd hx hb dX10_hourGoes_67 ?_
        refine kSI (As := [.int 99, .int ((gx (A0 0) (32 + l1)) + 1)]) (rest := [.int (32 + l1), .ref (a0 0)]) C0 (kt_X10_min l G  99 ((gx (A0 0) (32 + l1)) + 1)) gi_S_X10_284_X10_min (n := 2) rfl (by decide +kernel) ⟨rfl, rfl, Nat.le_of_ble_eq_true rfl, Nat.le_of_ble_eq_true rfl⟩ hPD hS [] [0, 1, 2, 3, 4, 5, 6, 7, 8, 9, 10, 11, 12, 13, 14, 15, 16, 17, 18, 19, 20, 21, 22, 23, 24, 25, 26, 27, 28, 29, 30, 31, 32, 33] [0, 1, 2, 3, 4, 5, 6, 7, 8, 9, 10, 11, 12, 13, 14, 15, 16, 17, 18, 19, 20, 21, 22, 23, 24, 25, 26, 27, 28, 29, 30, 31, 32, 33] (wN := (wX10 G h0 a0 f0 A0)) rfl rfl rfl rfl rfl hl.1 (Nat.le_of_ble_eq_true rfl) dX10_hourGoes_68 (fun H locs hPD hS => ?_)
        obtain ⟨hi_5, h⟩ := ob h
        refine va_iast hx hb hK hPD.1 hPD.2 hS 1 1 rfl rfl hi_5 dX10_hourGoes_71 (fun H locs hP hD hS => ?_)
        obtain ⟨A0_6, eA0_6, h⟩ := lvl h
        have hPD : WD G DA (wX10 G h0 a0 f0 A0_6) H := by rw [eA0_6]; exact ⟨hP, hD⟩
        clear eA0_6 hP hD
        refine lv_iinc (v := l1 + 1) (lv' := [(1, .int (l1 + 1)), (0, .ref h0)]) hx hb dX10_hourGoes_72 hl (k := 1) rfl rfl (by decide) rfl (fun ls hl => ?_)
        refine lv_goto (tgt := 21) hx hb dX10_hourGoes_75 (by decide) ?_
        exact hk21 A0_6 f0 (l1 + 1) h _ _ _ hPD hS (lv_sub hl [1, 0] rfl)
      · have h := (if_neg cc1).symm.trans h
        refine lv_iconst (v := 0) hx hb dX10_hourGoes_51 (by decide) ?_
        refine lv_goto (tgt := 71) hx hb dX10_hourGoes_52 (by decide) ?_
        obtain ⟨hi_7, h⟩ := ob h
        refine va_iast hx hb hK hPD.1 hPD.2 hS 1 1 rfl rfl hi_7 dX10_hourGoes_71 (fun H locs hP hD hS => ?_)
        obtain ⟨A0_8, eA0_8, h⟩ := lvl h
        have hPD : WD G DA (wX10 G h0 a0 f0 A0_8) H := by rw [eA0_8]; exact ⟨hP, hD⟩
        clear eA0_8 hP hD
        refine lv_iinc (v := l1 + 1) (lv' := [(1, .int (l1 + 1)), (0, .ref h0)]) hx hb dX10_hourGoes_72 hl (k := 1) rfl rfl (by decide) rfl (fun ls hl => ?_)
        refine lv_goto (tgt := 21) hx hb dX10_hourGoes_75 (by decide) ?_
        exact hk21 A0_8 f0 (l1 + 1) h _ _ _ hPD hS (lv_sub hl [1, 0] rfl)
set_option maxRecDepth 100000 in
set_option maxHeartbeats 4000000 in
theorem ww_f10_hourGoes_l21  (C0 : Cx cX10_hourGoes 2 none RX10 p s m args meth c G DA) {h0 : Nat} {a0 : Nat → Nat}   {res : (Nat → Nat → Int32) × (Nat → Int32)}  : ∀ (n : Nat) (A0 : Nat → Nat → Int32) (f0 : Nat → Int32) (l1 : Int32), f10_hourGoes_l21   n A0 f0 l1 = some res → ∀ (H : Heap) (locs : List Loc) (ls : Array Slot), WD G DA (wX10 G h0 a0 f0 A0) H → va_S DA s.heap H locs → lv_has ls 2 [(0, .ref h0), (1, .int l1)] → W p l e rmX10_hourGoes s m args below meth c H locs 0 0 (MQ below (QV G DA (wX10 G h0 a0 res.2 res.1)) args s 0 0 DA) (F0 m 21 ls []) := by
  intro n
  induction n with
  | zero => intro A0 f0 l1 h; cases h
  | succ n ih => intro A0 f0 l1 h; exact ww_f10_hourGoes_b21 C0  ih A0 f0 l1 h
set_option maxRecDepth 100000 in
set_option maxHeartbeats 4000000 in
theorem ww_f10_hourGoes_b2  (C0 : Cx cX10_hourGoes 2 none RX10 p s m args meth c G DA) {h0 : Nat} {a0 : Nat → Nat}  {k2 : (Nat → Nat → Int32) → (Nat → Int32) → Int32 → Option ((Nat → Nat → Int32) × (Nat → Int32))} {res : (Nat → Nat → Int32) × (Nat → Int32)}  (hk2 : ∀ (A0 : Nat → Nat → Int32) (f0 : Nat → Int32) (l1 : Int32), k2 A0 f0 l1 = some res → ∀ (H : Heap) (locs : List Loc) (ls : Array Slot), WD G DA (wX10 G h0 a0 f0 A0) H → va_S DA s.heap H locs → lv_has ls 2 [(0, .ref h0), (1, .int l1)] → W p l e rmX10_hourGoes s m args below meth c H locs 0 0 (MQ below (QV G DA (wX10 G h0 a0 res.2 res.1)) args s 0 0 DA) (F0 m 2 ls [])) : ∀ (A0 : Nat → Nat → Int32) (f0 : Nat → Int32) (l1 : Int32), f10_hourGoes_b2   k2 A0 f0 l1 = some res → ∀ (H : Heap) (locs : List Loc) (ls : Array Slot), WD G DA (wX10 G h0 a0 f0 A0) H → va_S DA s.heap H locs → lv_has ls 2 [(0, .ref h0), (1, .int l1)] → W p l e rmX10_hourGoes s m args below meth c H locs 0 0 (MQ below (QV G DA (wX10 G h0 a0 res.2 res.1)) args s 0 0 DA) (F0 m 2 ls []) := by
  obtain ⟨hx, hb, hml, hown, hts⟩ := C0.1
  have hK := C0.2.2.2.1
  intro A0 f0 l1 h _ _ _ hPD hS hl
  unfold f10_hourGoes_b2 at h
  refine lv_iload_n hx hb dX10_hourGoes_2 rfl (lv_at hl 1 rfl) ?_
  refine lv_bipush (v := 8) hx hb dX10_hourGoes_3 (by decide) ?_
  refine lv_icmp_ge (tgt := 19) hx hb dX10_hourGoes_5 (by decide) (fun cc1 => ?_) (fun cc1 => ?_)
  · have h := (if_pos cc1).symm.trans h
    refine lv_iconst (v := 0) hx hb dX10_hourGoes_19 (by decide) ?_
    refine lv_istore_n (lv' := [(1, .int 0), (0, .ref h0)]) hx hb dX10_hourGoes_20 rfl hl (by decide) rfl (fun ls hl => ?_)
    exact ww_f10_hourGoes_l21 C0 NF A0 f0 0 h _ _ _ hPD hS (lv_sub hl [1, 0] rfl)
  · have h := (if_neg cc1).symm.trans h
    refine lv_aload_n hx hb dX10_hourGoes_8 rfl (lv_at hl 0 rfl) ?_
    refine lv_iload_n hx hb dX10_hourGoes_9 rfl (lv_at hl 1 rfl) ?_
    obtain ⟨q_9, hq_9, h⟩ := ob2 h
    refine kVV (As := [.int l1]) (rest := []) C0 (kt_X10_walks l G h0 a0 f0 A0 l1 hq_9) gi_V_X10_317_X10_walks (n := 1) rfl (by decide +kernel) rfl ⟨rfl, rfl, Nat.le_of_ble_eq_true rfl, Nat.le_of_ble_eq_true rfl⟩ hPD hS 0 10 rfl rfl rfl [0, 1, 2, 3, 4, 5, 6, 7, 8, 9, 10, 11, 12, 13, 14, 15, 16, 17, 18, 19, 20, 21, 22, 23, 24, 25, 26, 27, 28, 29, 30, 31, 32, 33] [] [0, 1, 2, 3, 4, 5, 6, 7, 8, 9, 10, 11, 12, 13, 14, 15, 16, 17, 18, 19, 20, 21, 22, 23, 24, 25, 26, 27, 28, 29, 30, 31, 32, 33] (wN := (wX10 G h0 a0 f0 q_9)) rfl rfl rfl rfl rfl hl.1 (Nat.le_of_ble_eq_true rfl) dX10_hourGoes_10 (fun H locs hPD hS => ?_)
    refine lv_iinc (v := l1 + 1) (lv' := [(1, .int (l1 + 1)), (0, .ref h0)]) hx hb dX10_hourGoes_13 hl (k := 1) rfl rfl (by decide) rfl (fun ls hl => ?_)
    refine lv_goto (tgt := 2) hx hb dX10_hourGoes_16 (by decide) ?_
    exact hk2 q_9 f0 (l1 + 1) h _ _ _ hPD hS (lv_sub hl [1, 0] rfl)
set_option maxRecDepth 100000 in
set_option maxHeartbeats 4000000 in
theorem ww_f10_hourGoes_l2  (C0 : Cx cX10_hourGoes 2 none RX10 p s m args meth c G DA) {h0 : Nat} {a0 : Nat → Nat}   {res : (Nat → Nat → Int32) × (Nat → Int32)}  : ∀ (n : Nat) (A0 : Nat → Nat → Int32) (f0 : Nat → Int32) (l1 : Int32), f10_hourGoes_l2   n A0 f0 l1 = some res → ∀ (H : Heap) (locs : List Loc) (ls : Array Slot), WD G DA (wX10 G h0 a0 f0 A0) H → va_S DA s.heap H locs → lv_has ls 2 [(0, .ref h0), (1, .int l1)] → W p l e rmX10_hourGoes s m args below meth c H locs 0 0 (MQ below (QV G DA (wX10 G h0 a0 res.2 res.1)) args s 0 0 DA) (F0 m 2 ls []) := by
  intro n
  induction n with
  | zero => intro A0 f0 l1 h; cases h
  | succ n ih => intro A0 f0 l1 h; exact ww_f10_hourGoes_b2 C0  ih A0 f0 l1 h
set_option maxRecDepth 100000 in
set_option maxHeartbeats 4000000 in
theorem kt_X10_hourGoes (l : Launch) (G : Gp) (h0 : Nat) (a0 : Nat → Nat) (f0 : Nat → Int32) (A0 : Nat → Nat → Int32) : ∀ {r : (Nat → Nat → Int32) × (Nat → Int32)}, f10_hourGoes f0 A0 = some r → CtrV l yX10_hourGoes cX10_hourGoes 2 none rmX10_hourGoes G [.ref h0] (wX10 G h0 a0 f0 A0) (wX10 G h0 a0 r.2 r.1) := by
  intro res h
  refine ctrV_of (cc := cX10_hourGoes) (maxL := 2) (ret := none) (by decide +kernel) rfl (Nat.le_of_ble_eq_true rfl) (fun p e s m below meth c DA C0 hP hD ls hl => ?_)
  have hPD : WD G DA (wX10 G h0 a0 f0 A0) s.heap := ⟨hP, hD⟩
  have hS : va_S DA s.heap s.heap [] := va_S.rf
  have hl : lv_has ls 2 [(0, .ref h0)] := hl
  obtain ⟨hx, hb, hml, hown, hts⟩ := C0.1
  have hK := C0.2.2.2.1
  unfold f10_hourGoes at h
  refine lv_iconst (v := 0) hx hb dX10_hourGoes_0 (by decide) ?_
  refine lv_istore_n (lv' := [(1, .int 0), (0, .ref h0)]) hx hb dX10_hourGoes_1 rfl hl (by decide) rfl (fun ls hl => ?_)
  exact ww_f10_hourGoes_l2 C0 NF A0 f0 0 h _ _ _ hPD hS (lv_sub hl [1, 0] rfl)
abbrev rmX10_hoursGo : Room := { frames := 8, cells := 0, slots := 0, locals := 177 }
set_option maxRecDepth 100000 in
set_option maxHeartbeats 4000000 in
theorem ww_f10_hoursGo_b12  (C0 : Cx cX10_hoursGo 3 none RX10 p s m args meth c G DA) {h0 : Nat} {a0 : Nat → Nat} {p1 : Int32}  {k12 : (Nat → Nat → Int32) → (Nat → Int32) → Int32 → Option ((Nat → Nat → Int32) × (Nat → Int32))} {res : (Nat → Nat → Int32) × (Nat → Int32)}  (hk12 : ∀ (A0 : Nat → Nat → Int32) (f0 : Nat → Int32) (l2 : Int32), k12 A0 f0 l2 = some res → ∀ (H : Heap) (locs : List Loc) (ls : Array Slot), WD G DA (wX10 G h0 a0 f0 A0) H → va_S DA s.heap H locs → lv_has ls 3 [(0, .ref h0), (1, .int p1), (2, .int l2)] → W p l e rmX10_hoursGo s m args below meth c H locs 0 0 (MQ below (QV G DA (wX10 G h0 a0 res.2 res.1)) args s 0 0 DA) (F0 m 12 ls [])) : ∀ (A0 : Nat → Nat → Int32) (f0 : Nat → Int32) (l2 : Int32), f10_hoursGo_b12 p1  k12 A0 f0 l2 = some res → ∀ (H : Heap) (locs : List Loc) (ls : Array Slot), WD G DA (wX10 G h0 a0 f0 A0) H → va_S DA s.heap H locs → lv_has ls 3 [(0, .ref h0), (1, .int p1), (2, .int l2)] → W p l e rmX10_hoursGo s m args below meth c H locs 0 0 (MQ below (QV G DA (wX10 G h0 a0 res.2 res.1)) args s 0 0 DA) (F0 m 12 ls []) := by
  obtain ⟨hx, hb, hml, hown, hts⟩ := C0.1
  have hK := C0.2.2.2.1
  intro A0 f0 l2 h _ _ _ hPD hS hl
  unfold f10_hoursGo_b12 at h
  refine lv_iload_n hx hb dX10_hoursGo_12 rfl (lv_at hl 2 rfl) ?_
  refine lv_iload_n hx hb dX10_hoursGo_13 rfl (lv_at hl 1 rfl) ?_
  refine lv_icmp_ge (tgt := 40) hx hb dX10_hoursGo_14 (by decide) (fun cc1 => ?_) (fun cc1 => ?_)
  · have h := (if_pos cc1).symm.trans h
    obtain rfl := Option.some.inj h
    exact eV C0 hPD.1 hPD.2 hS dX10_hoursGo_40
  · have h := (if_neg cc1).symm.trans h
    refine lv_aload_n hx hb dX10_hoursGo_17 rfl (lv_at hl 0 rfl) ?_
    refine va_get (D := G.1) (ci := 10) (v := .ref (a0 0)) (C := RX10) (T := TX10) (N := 52) hx hb hts inlX10 hown hK hPD.1 0 rfl rfl 0 (by decide) (hts _ gw_539) (fun _ h9 => h9) rfl dX10_hoursGo_18 ?_
    refine lv_bipush (v := 74) hx hb dX10_hoursGo_21 (by decide) ?_
    refine va_iald hx hb hK hPD.1 1 1 rfl rfl (vin rfl) dX10_hoursGo_23 ?_
    refine lv_sipush (v := 9999) hx hb dX10_hoursGo_24 (by decide) ?_
    refine lv_icmp_ge (tgt := 40) hx hb dX10_hoursGo_27 (by decide) (fun cc1 => ?_) (fun cc1 => ?_)
    · have h := (if_pos cc1).symm.trans h
      obtain rfl := Option.some.inj h
      exact eV C0 hPD.1 hPD.2 hS dX10_hoursGo_40
    · have h := (if_neg cc1).symm.trans h
      refine lv_aload_n hx hb dX10_hoursGo_30 rfl (lv_at hl 0 rfl) ?_
      obtain ⟨q_3, hq_3, h⟩ := ob2 h
      refine kVV (As := []) (rest := []) C0 (kt_X10_hourGoes l G h0 a0 f0 A0 hq_3) gi_V_X10_323_X10_hourGoes (n := 0) rfl (by decide +kernel) rfl ⟨rfl, rfl, Nat.le_of_ble_eq_true rfl, Nat.le_of_ble_eq_true rfl⟩ hPD hS 0 10 rfl rfl rfl [0, 1, 2, 3, 4, 5, 6, 7, 8, 9, 10, 11, 12, 13, 14, 15, 16, 17, 18, 19, 20, 21, 22, 23, 24, 25, 26, 27, 28, 29, 30, 31, 32, 33] [] [0, 1, 2, 3, 4, 5, 6, 7, 8, 9, 10, 11, 12, 13, 14, 15, 16, 17, 18, 19, 20, 21, 22, 23, 24, 25, 26, 27, 28, 29, 30, 31, 32, 33] (wN := (wX10 G h0 a0 q_3.2 q_3.1)) rfl rfl rfl rfl rfl hl.1 (Nat.le_of_ble_eq_true rfl) dX10_hoursGo_31 (fun H locs hPD hS => ?_)
      refine lv_iinc (v := l2 + 1) (lv' := [(2, .int (l2 + 1)), (0, .ref h0), (1, .int p1)]) hx hb dX10_hoursGo_34 hl (k := 2) rfl rfl (by decide) rfl (fun ls hl => ?_)
      refine lv_goto (tgt := 12) hx hb dX10_hoursGo_37 (by decide) ?_
      exact hk12 q_3.1 q_3.2 (l2 + 1) h _ _ _ hPD hS (lv_sub hl [1, 2, 0] rfl)
set_option maxRecDepth 100000 in
set_option maxHeartbeats 4000000 in
theorem ww_f10_hoursGo_l12  (C0 : Cx cX10_hoursGo 3 none RX10 p s m args meth c G DA) {h0 : Nat} {a0 : Nat → Nat} {p1 : Int32}   {res : (Nat → Nat → Int32) × (Nat → Int32)}  : ∀ (n : Nat) (A0 : Nat → Nat → Int32) (f0 : Nat → Int32) (l2 : Int32), f10_hoursGo_l12 p1  n A0 f0 l2 = some res → ∀ (H : Heap) (locs : List Loc) (ls : Array Slot), WD G DA (wX10 G h0 a0 f0 A0) H → va_S DA s.heap H locs → lv_has ls 3 [(0, .ref h0), (1, .int p1), (2, .int l2)] → W p l e rmX10_hoursGo s m args below meth c H locs 0 0 (MQ below (QV G DA (wX10 G h0 a0 res.2 res.1)) args s 0 0 DA) (F0 m 12 ls []) := by
  intro n
  induction n with
  | zero => intro A0 f0 l2 h; cases h
  | succ n ih => intro A0 f0 l2 h; exact ww_f10_hoursGo_b12 C0  ih A0 f0 l2 h
set_option maxRecDepth 100000 in
set_option maxHeartbeats 4000000 in
theorem kt_X10_hoursGo (l : Launch) (G : Gp) (h0 : Nat) (a0 : Nat → Nat) (f0 : Nat → Int32) (A0 : Nat → Nat → Int32) (p1 : Int32) : ∀ {r : (Nat → Nat → Int32) × (Nat → Int32)}, f10_hoursGo f0 A0 p1 = some r → CtrV l yX10_hoursGo cX10_hoursGo 3 none rmX10_hoursGo G [.ref h0, .int p1] (wX10 G h0 a0 f0 A0) (wX10 G h0 a0 r.2 r.1) := by
  intro res h
  refine ctrV_of (cc := cX10_hoursGo) (maxL := 3) (ret := none) (by decide +kernel) rfl (Nat.le_of_ble_eq_true rfl) (fun p e s m below meth c DA C0 hP hD ls hl => ?_)
  have hPD : WD G DA (wX10 G h0 a0 f0 A0) s.heap := ⟨hP, hD⟩
  have hS : va_S DA s.heap s.heap [] := va_S.rf
  have hl : lv_has ls 3 [(0, .ref h0), (1, .int p1)] := hl
  obtain ⟨hx, hb, hml, hown, hts⟩ := C0.1
  have hK := C0.2.2.2.1
  unfold f10_hoursGo at h
  refine lv_aload_n hx hb dX10_hoursGo_0 rfl (lv_at hl 0 rfl) ?_
  refine lv_iconst (v := 0) hx hb dX10_hoursGo_1 (by decide) ?_
  refine va_put (D := G.1) (ci := 10) (v := .int 0) (ty := .int) (C := RX10) (T := TX10) (N := 52) hx hb hts inlX10 tyX10 tyX10_ok nmX10 hown hK hPD.1 hPD.2 hS 0 rfl rfl 41 (by decide) (hts _ gw_743) (fun _ h9 => h9) rfl (by decide +kernel) rfl rfl (Nat.le_of_ble_eq_true rfl) dX10_hoursGo_2 (fun H locs hP hD hS => ?_)
  obtain ⟨f0_1, ef0_1, h⟩ := lvl h
  have hPD : WD G DA (wX10 G h0 a0 f0_1 A0) H := by rw [ef0_1]; exact ⟨hP, hD⟩
  clear ef0_1 hP hD
  refine lv_aload_n hx hb dX10_hoursGo_5 rfl (lv_at hl 0 rfl) ?_
  refine lv_iconst (v := 0) hx hb dX10_hoursGo_6 (by decide) ?_
  refine va_put (D := G.1) (ci := 10) (v := .int 0) (ty := .int) (C := RX10) (T := TX10) (N := 52) hx hb hts inlX10 tyX10 tyX10_ok nmX10 hown hK hPD.1 hPD.2 hS 0 rfl rfl 42 (by decide) (hts _ gw_737) (fun _ h9 => h9) rfl (by decide +kernel) rfl rfl (Nat.le_of_ble_eq_true rfl) dX10_hoursGo_7 (fun H locs hP hD hS => ?_)
  obtain ⟨f0_2, ef0_2, h⟩ := lvl h
  have hPD : WD G DA (wX10 G h0 a0 f0_2 A0) H := by rw [ef0_2]; exact ⟨hP, hD⟩
  clear ef0_2 hP hD
  refine lv_iconst (v := 0) hx hb dX10_hoursGo_10 (by decide) ?_
  refine lv_istore_n (lv' := [(2, .int 0), (0, .ref h0), (1, .int p1)]) hx hb dX10_hoursGo_11 rfl hl (by decide) rfl (fun ls hl => ?_)
  exact ww_f10_hoursGo_l12 C0 NF A0 f0_2 0 h _ _ _ hPD hS (lv_sub hl [1, 2, 0] rfl)
abbrev rmX10_hours : Room := { frames := 9, cells := 0, slots := 0, locals := 199 }
set_option maxRecDepth 100000 in
set_option maxHeartbeats 4000000 in
theorem kt_X10_hours (l : Launch) (G : Gp) (h0 : Nat) (a0 : Nat → Nat) (f0 : Nat → Int32) (A0 : Nat → Nat → Int32) (p1 : Int32) : ∀ {r : Int32 × (Nat → Nat → Int32) × (Nat → Int32)}, f10_hours f0 A0 p1 = some r → CtrI l yX10_hours cX10_hours 2 (some .int) rmX10_hours G [.ref h0, .int p1] (wX10 G h0 a0 f0 A0) r.1 (wX10 G h0 a0 r.2.2 r.2.1) := by
  intro res h
  refine ctrI_of (cc := cX10_hours) (maxL := 2) (ret := (some .int)) (by decide +kernel) rfl (Nat.le_of_ble_eq_true rfl) (fun p e s m below meth c DA C0 hP hD ls hl => ?_)
  have hPD : WD G DA (wX10 G h0 a0 f0 A0) s.heap := ⟨hP, hD⟩
  have hS : va_S DA s.heap s.heap [] := va_S.rf
  have hl : lv_has ls 2 [(0, .ref h0), (1, .int p1)] := hl
  obtain ⟨hx, hb, hml, hown, hts⟩ := C0.1
  have hK := C0.2.2.2.1
  unfold f10_hours at h
  refine lv_iload_n hx hb dX10_hours_0 rfl (lv_at hl 1 rfl) ?_
  refine lv_iconst (v := 1) hx hb dX10_hours_1 (by decide) ?_
  refine lv_sipush (v := 240) hx hb dX10_hours_2 (by decide) ?_
  refine kSI (As := [.int p1, .int 1, .int 240]) (rest := []) C0 (kt_X10_in l G  p1 1 240) gi_S_X10_112_X10_in (n := 3) rfl (by decide +kernel) ⟨rfl, rfl, Nat.le_of_ble_eq_true rfl, Nat.le_of_ble_eq_true rfl⟩ hPD hS [] [0, 1, 2, 3, 4, 5, 6, 7, 8, 9, 10, 11, 12, 13, 14, 15, 16, 17, 18, 19, 20, 21, 22, 23, 24, 25, 26, 27, 28, 29, 30, 31, 32, 33] [0, 1, 2, 3, 4, 5, 6, 7, 8, 9, 10, 11, 12, 13, 14, 15, 16, 17, 18, 19, 20, 21, 22, 23, 24, 25, 26, 27, 28, 29, 30, 31, 32, 33] (wN := (wX10 G h0 a0 f0 A0)) rfl rfl rfl rfl rfl hl.1 (Nat.le_of_ble_eq_true rfl) dX10_hours_5 (fun H locs hPD hS => ?_)
  refine lv_if_ne (tgt := 13) hx hb dX10_hours_8 (by decide) (fun cc1 => ?_) (fun cc1 => ?_)
  · have h := (if_neg cc1).symm.trans h
    refine lv_aload_n hx hb dX10_hours_13 rfl (lv_at hl 0 rfl) ?_
    refine lv_iload_n hx hb dX10_hours_14 rfl (lv_at hl 1 rfl) ?_
    obtain ⟨q_1, hq_1, h⟩ := ob2 h
    refine kVV (As := [.int p1]) (rest := []) C0 (kt_X10_hoursGo l G h0 a0 f0 A0 p1 hq_1) gi_V_X10_326_X10_hoursGo (n := 1) rfl (by decide +kernel) rfl ⟨rfl, rfl, Nat.le_of_ble_eq_true rfl, Nat.le_of_ble_eq_true rfl⟩ hPD hS 0 10 rfl rfl rfl [0, 1, 2, 3, 4, 5, 6, 7, 8, 9, 10, 11, 12, 13, 14, 15, 16, 17, 18, 19, 20, 21, 22, 23, 24, 25, 26, 27, 28, 29, 30, 31, 32, 33] [] [0, 1, 2, 3, 4, 5, 6, 7, 8, 9, 10, 11, 12, 13, 14, 15, 16, 17, 18, 19, 20, 21, 22, 23, 24, 25, 26, 27, 28, 29, 30, 31, 32, 33] (wN := (wX10 G h0 a0 q_1.2 q_1.1)) rfl rfl rfl rfl rfl hl.1 (Nat.le_of_ble_eq_true rfl) dX10_hours_15 (fun H locs hPD hS => ?_)
    refine lv_aload_n hx hb dX10_hours_18 rfl (lv_at hl 0 rfl) ?_
    refine va_get (D := G.1) (ci := 10) (v := .int (q_1.2 41)) (C := RX10) (T := TX10) (N := 52) hx hb hts inlX10 hown hK hPD.1 0 rfl rfl 41 (by decide) (hts _ gw_743) (fun _ h9 => h9) rfl dX10_hours_19 ?_
    obtain rfl := Option.some.inj h
    exact eI C0 hPD.1 hPD.2 hS rfl dX10_hours_22
  · have h := (if_pos cc1).symm.trans h
    refine lv_iconst (v := (-1)) hx hb dX10_hours_11 (by decide) ?_
    obtain rfl := Option.some.inj h
    exact eI C0 hPD.1 hPD.2 hS rfl dX10_hours_12
abbrev rmX10_canTry : Room := { frames := 2, cells := 0, slots := 0, locals := 43 }
set_option maxRecDepth 100000 in
set_option maxHeartbeats 4000000 in
theorem kt_X10_canTry (l : Launch) (G : Gp) (h0 : Nat) (a0 : Nat → Nat) (f0 : Nat → Int32) (A0 : Nat → Nat → Int32) (p1 : Int32) : ∀ {r : Int32}, f10_canTry f0 A0 p1 = some r → CtrI l yX10_canTry cX10_canTry 2 (some .boolean) rmX10_canTry G [.ref h0, .int p1] (wX10 G h0 a0 f0 A0) r (wX10 G h0 a0 f0 A0) := by
  intro res h
  refine ctrI_of (cc := cX10_canTry) (maxL := 2) (ret := (some .boolean)) (by decide +kernel) rfl (Nat.le_of_ble_eq_true rfl) (fun p e s m below meth c DA C0 hP hD ls hl => ?_)
  have hPD : WD G DA (wX10 G h0 a0 f0 A0) s.heap := ⟨hP, hD⟩
  have hS : va_S DA s.heap s.heap [] := va_S.rf
  have hl : lv_has ls 2 [(0, .ref h0), (1, .int p1)] := hl
  obtain ⟨hx, hb, hml, hown, hts⟩ := C0.1
  have hK := C0.2.2.2.1
  unfold f10_canTry at h
  refine lv_iload_n hx hb dX10_canTry_0 rfl (lv_at hl 1 rfl) ?_
  refine lv_iconst (v := 0) hx hb dX10_canTry_1 (by decide) ?_
  refine lv_iconst (v := 2) hx hb dX10_canTry_2 (by decide) ?_
  refine kSI (As := [.int p1, .int 0, .int 2]) (rest := []) C0 (kt_X10_in l G  p1 0 2) gi_S_X10_112_X10_in (n := 3) rfl (by decide +kernel) ⟨rfl, rfl, Nat.le_of_ble_eq_true rfl, Nat.le_of_ble_eq_true rfl⟩ hPD hS [] [0, 1, 2, 3, 4, 5, 6, 7, 8, 9, 10, 11, 12, 13, 14, 15, 16, 17, 18, 19, 20, 21, 22, 23, 24, 25, 26, 27, 28, 29, 30, 31, 32, 33] [0, 1, 2, 3, 4, 5, 6, 7, 8, 9, 10, 11, 12, 13, 14, 15, 16, 17, 18, 19, 20, 21, 22, 23, 24, 25, 26, 27, 28, 29, 30, 31, 32, 33] (wN := (wX10 G h0 a0 f0 A0)) rfl rfl rfl rfl rfl hl.1 (Nat.le_of_ble_eq_true rfl) dX10_canTry_3 (fun H locs hPD hS => ?_)
  refine lv_if_ne (tgt := 42) hx hb dX10_canTry_6 (by decide) (fun cc1 => ?_) (fun cc1 => ?_)
  · have h := (if_neg cc1).symm.trans h
    refine lv_iconst (v := 1) hx hb dX10_canTry_42 (by decide) ?_
    refine lv_goto (tgt := 47) hx hb dX10_canTry_43 (by decide) ?_
    obtain rfl := Option.some.inj h
    exact eZ C0 hPD.1 hPD.2 hS rfl rfl dX10_canTry_47
  · have h := (if_pos cc1).symm.trans h
    refine lv_aload_n hx hb dX10_canTry_9 rfl (lv_at hl 0 rfl) ?_
    refine lv_iload_n hx hb dX10_canTry_10 rfl (lv_at hl 1 rfl) ?_
    refine lv_bipush (v := 10) hx hb dX10_canTry_11 (by decide) ?_
    refine lv_isub hx hb dX10_canTry_13 ?_
    obtain ⟨q_1, hq_1, h⟩ := ob2 h
    refine kVI (As := [.int (p1 - 10)]) (rest := []) C0 (kt_X10_isMan l G h0 a0 f0 A0 (p1 - 10) hq_1) gi_V_X10_124_X10_isMan (n := 1) rfl (by decide +kernel) rfl ⟨rfl, rfl, Nat.le_of_ble_eq_true rfl, Nat.le_of_ble_eq_true rfl⟩ hPD hS 0 10 rfl rfl rfl [0, 1, 2, 3, 4, 5, 6, 7, 8, 9, 10, 11, 12, 13, 14, 15, 16, 17, 18, 19, 20, 21, 22, 23, 24, 25, 26, 27, 28, 29, 30, 31, 32, 33] [] [0, 1, 2, 3, 4, 5, 6, 7, 8, 9, 10, 11, 12, 13, 14, 15, 16, 17, 18, 19, 20, 21, 22, 23, 24, 25, 26, 27, 28, 29, 30, 31, 32, 33] (wN := (wX10 G h0 a0 f0 A0)) rfl rfl rfl rfl rfl hl.1 (Nat.le_of_ble_eq_true rfl) dX10_canTry_14 (fun H locs hPD hS => ?_)
    refine lv_if_ne (tgt := 42) hx hb dX10_canTry_17 (by decide) (fun cc1 => ?_) (fun cc1 => ?_)
    · have h := (if_neg cc1).symm.trans h
      refine lv_iconst (v := 1) hx hb dX10_canTry_42 (by decide) ?_
      refine lv_goto (tgt := 47) hx hb dX10_canTry_43 (by decide) ?_
      obtain rfl := Option.some.inj h
      exact eZ C0 hPD.1 hPD.2 hS rfl rfl dX10_canTry_47
    · have h := (if_pos cc1).symm.trans h
      refine lv_aload_n hx hb dX10_canTry_20 rfl (lv_at hl 0 rfl) ?_
      refine lv_iload_n hx hb dX10_canTry_21 rfl (lv_at hl 1 rfl) ?_
      refine lv_bipush (v := 20) hx hb dX10_canTry_22 (by decide) ?_
      refine lv_isub hx hb dX10_canTry_24 ?_
      obtain ⟨q_2, hq_2, h⟩ := ob2 h
      refine kVI (As := [.int (p1 - 20)]) (rest := []) C0 (kt_X10_isMan l G h0 a0 f0 A0 (p1 - 20) hq_2) gi_V_X10_124_X10_isMan (n := 1) rfl (by decide +kernel) rfl ⟨rfl, rfl, Nat.le_of_ble_eq_true rfl, Nat.le_of_ble_eq_true rfl⟩ hPD hS 0 10 rfl rfl rfl [0, 1, 2, 3, 4, 5, 6, 7, 8, 9, 10, 11, 12, 13, 14, 15, 16, 17, 18, 19, 20, 21, 22, 23, 24, 25, 26, 27, 28, 29, 30, 31, 32, 33] [] [0, 1, 2, 3, 4, 5, 6, 7, 8, 9, 10, 11, 12, 13, 14, 15, 16, 17, 18, 19, 20, 21, 22, 23, 24, 25, 26, 27, 28, 29, 30, 31, 32, 33] (wN := (wX10 G h0 a0 f0 A0)) rfl rfl rfl rfl rfl hl.1 (Nat.le_of_ble_eq_true rfl) dX10_canTry_25 (fun H locs hPD hS => ?_)
      refine lv_if_ne (tgt := 42) hx hb dX10_canTry_28 (by decide) (fun cc1 => ?_) (fun cc1 => ?_)
      · have h := (if_neg cc1).symm.trans h
        refine lv_iconst (v := 1) hx hb dX10_canTry_42 (by decide) ?_
        refine lv_goto (tgt := 47) hx hb dX10_canTry_43 (by decide) ?_
        obtain rfl := Option.some.inj h
        exact eZ C0 hPD.1 hPD.2 hS rfl rfl dX10_canTry_47
      · have h := (if_pos cc1).symm.trans h
        refine lv_aload_n hx hb dX10_canTry_31 rfl (lv_at hl 0 rfl) ?_
        refine lv_iload_n hx hb dX10_canTry_32 rfl (lv_at hl 1 rfl) ?_
        refine lv_bipush (v := 30) hx hb dX10_canTry_33 (by decide) ?_
        refine lv_isub hx hb dX10_canTry_35 ?_
        refine kVI (As := [.int (p1 - 30)]) (rest := []) C0 (kt_X10_isTold l G h0 a0 f0 A0 (p1 - 30)) gi_V_X10_128_X10_isTold (n := 1) rfl (by decide +kernel) rfl ⟨rfl, rfl, Nat.le_of_ble_eq_true rfl, Nat.le_of_ble_eq_true rfl⟩ hPD hS 0 10 rfl rfl rfl [0, 1, 2, 3, 4, 5, 6, 7, 8, 9, 10, 11, 12, 13, 14, 15, 16, 17, 18, 19, 20, 21, 22, 23, 24, 25, 26, 27, 28, 29, 30, 31, 32, 33] [] [0, 1, 2, 3, 4, 5, 6, 7, 8, 9, 10, 11, 12, 13, 14, 15, 16, 17, 18, 19, 20, 21, 22, 23, 24, 25, 26, 27, 28, 29, 30, 31, 32, 33] (wN := (wX10 G h0 a0 f0 A0)) rfl rfl rfl rfl rfl hl.1 (Nat.le_of_ble_eq_true rfl) dX10_canTry_36 (fun H locs hPD hS => ?_)
        refine lv_if_eq (tgt := 46) hx hb dX10_canTry_39 (by decide) (fun cc1 => ?_) (fun cc1 => ?_)
        · have h := (if_pos cc1).symm.trans h
          refine lv_iconst (v := 0) hx hb dX10_canTry_46 (by decide) ?_
          obtain rfl := Option.some.inj h
          exact eZ C0 hPD.1 hPD.2 hS rfl rfl dX10_canTry_47
        · have h := (if_neg cc1).symm.trans h
          refine lv_iconst (v := 1) hx hb dX10_canTry_42 (by decide) ?_
          refine lv_goto (tgt := 47) hx hb dX10_canTry_43 (by decide) ?_
          obtain rfl := Option.some.inj h
          exact eZ C0 hPD.1 hPD.2 hS rfl rfl dX10_canTry_47
abbrev rmX10_tried : Room := { frames := 9, cells := 0, slots := 0, locals := 199 }
set_option maxRecDepth 100000 in
set_option maxHeartbeats 4000000 in
theorem ww_f10_tried_b154  (C0 : Cx cX10_tried 4 (some .int) RX10 p s m args meth c G DA) {h0 : Nat} {a0 : Nat → Nat} {p1 : Int32} {p2 : Int32}   {res : Int32 × (Nat → Nat → Int32) × (Nat → Int32)}  : ∀ (A0 : Nat → Nat → Int32) (f0 : Nat → Int32) (l3 : Int32), f10_tried_b154 p1 p2  A0 f0 l3 = some res → ∀ (H : Heap) (locs : List Loc) (ls : Array Slot), WD G DA (wX10 G h0 a0 f0 A0) H → va_S DA s.heap H locs → lv_has ls 4 [(0, .ref h0), (1, .int p1), (2, .int p2), (3, .int l3)] → W p l e rmX10_tried s m args below meth c H locs 0 0 (MQ below (QI G DA res.1 (wX10 G h0 a0 res.2.2 res.2.1)) args s 0 0 DA) (F0 m 154 ls []) := by
  obtain ⟨hx, hb, hml, hown, hts⟩ := C0.1
  have hK := C0.2.2.2.1
  intro A0 f0 l3 h _ _ _ hPD hS hl
  unfold f10_tried_b154 at h
  refine lv_aload_n hx hb dX10_tried_154 rfl (lv_at hl 0 rfl) ?_
  refine va_get (D := G.1) (ci := 10) (v := .ref (a0 1)) (C := RX10) (T := TX10) (N := 52) hx hb hts inlX10 hown hK hPD.1 0 rfl rfl 1 (by decide) (hts _ gw_719) (fun _ h9 => h9) rfl dX10_tried_155 ?_
  refine lv_aload_n hx hb dX10_tried_158 rfl (lv_at hl 0 rfl) ?_
  refine va_get (D := G.1) (ci := 10) (v := .ref (a0 0)) (C := RX10) (T := TX10) (N := 52) hx hb hts inlX10 hown hK hPD.1 0 rfl rfl 0 (by decide) (hts _ gw_539) (fun _ h9 => h9) rfl dX10_tried_159 ?_
  obtain ⟨q_5, hq_5, h⟩ := ob2 h
  refine kSV (As := [.ref (a0 1), .ref (a0 0)]) (rest := []) C0 (kt_X10_copies l G (a0 1) (a0 0) 76 (A0 1) 76 (A0 0) (by decide) (by decide) hq_5) gi_S_X10_290_X10_copies (n := 2) rfl (by decide +kernel) ⟨rfl, rfl, Nat.le_of_ble_eq_true rfl, Nat.le_of_ble_eq_true rfl⟩ hPD hS [2, 1] [0, 3, 4, 5, 6, 7, 8, 9, 10, 11, 12, 13, 14, 15, 16, 17, 18, 19, 20, 21, 22, 23, 24, 25, 26, 27, 28, 29, 30, 31, 32, 33] [0, 33, 32, 1, 2, 3, 4, 5, 6, 7, 8, 9, 10, 11, 12, 13, 14, 15, 16, 17, 18, 19, 20, 21, 22, 23, 24, 25, 26, 27, 28, 29, 30, 31] (wN := (wX10 G h0 a0 f0 (updA A0 0 q_5))) rfl rfl rfl rfl rfl hl.1 (Nat.le_of_ble_eq_true rfl) dX10_tried_162 (fun H locs hPD hS => ?_)
  obtain ⟨A0_6, eA0_6, h⟩ := lvl h
  have hPD : WD G DA (wX10 G h0 a0 f0 A0_6) H := by rw [eA0_6]; exact hPD
  clear eA0_6
  refine lv_iload_n hx hb dX10_tried_165 rfl (lv_at hl 3 rfl) ?_
  obtain rfl := Option.some.inj h
  exact eI C0 hPD.1 hPD.2 hS rfl dX10_tried_166
set_option maxRecDepth 100000 in
set_option maxHeartbeats 4000000 in
theorem kt_X10_tried (l : Launch) (G : Gp) (h0 : Nat) (a0 : Nat → Nat) (f0 : Nat → Int32) (A0 : Nat → Nat → Int32) (p1 : Int32) (p2 : Int32) : ∀ {r : Int32 × (Nat → Nat → Int32) × (Nat → Int32)}, f10_tried f0 A0 p1 p2 = some r → CtrI l yX10_tried cX10_tried 4 (some .int) rmX10_tried G [.ref h0, .int p1, .int p2] (wX10 G h0 a0 f0 A0) r.1 (wX10 G h0 a0 r.2.2 r.2.1) := by
  intro res h
  refine ctrI_of (cc := cX10_tried) (maxL := 4) (ret := (some .int)) (by decide +kernel) rfl (Nat.le_of_ble_eq_true rfl) (fun p e s m below meth c DA C0 hP hD ls hl => ?_)
  have hPD : WD G DA (wX10 G h0 a0 f0 A0) s.heap := ⟨hP, hD⟩
  have hS : va_S DA s.heap s.heap [] := va_S.rf
  have hl : lv_has ls 4 [(0, .ref h0), (1, .int p1), (2, .int p2)] := hl
  obtain ⟨hx, hb, hml, hown, hts⟩ := C0.1
  have hK := C0.2.2.2.1
  unfold f10_tried at h
  refine lv_iload_n hx hb dX10_tried_0 rfl (lv_at hl 1 rfl) ?_
  refine lv_iconst (v := 1) hx hb dX10_tried_1 (by decide) ?_
  refine lv_sipush (v := 240) hx hb dX10_tried_2 (by decide) ?_
  refine kSI (As := [.int p1, .int 1, .int 240]) (rest := []) C0 (kt_X10_in l G  p1 1 240) gi_S_X10_112_X10_in (n := 3) rfl (by decide +kernel) ⟨rfl, rfl, Nat.le_of_ble_eq_true rfl, Nat.le_of_ble_eq_true rfl⟩ hPD hS [] [0, 1, 2, 3, 4, 5, 6, 7, 8, 9, 10, 11, 12, 13, 14, 15, 16, 17, 18, 19, 20, 21, 22, 23, 24, 25, 26, 27, 28, 29, 30, 31, 32, 33] [0, 1, 2, 3, 4, 5, 6, 7, 8, 9, 10, 11, 12, 13, 14, 15, 16, 17, 18, 19, 20, 21, 22, 23, 24, 25, 26, 27, 28, 29, 30, 31, 32, 33] (wN := (wX10 G h0 a0 f0 A0)) rfl rfl rfl rfl rfl hl.1 (Nat.le_of_ble_eq_true rfl) dX10_tried_5 (fun H locs hPD hS => ?_)
  refine lv_if_eq (tgt := 19) hx hb dX10_tried_8 (by decide) (fun cc1 => ?_) (fun cc1 => ?_)
  · have h := (if_pos cc1).symm.trans h
    refine lv_iconst (v := (-1)) hx hb dX10_tried_19 (by decide) ?_
    obtain rfl := Option.some.inj h
    exact eI C0 hPD.1 hPD.2 hS rfl dX10_tried_20
  · have h := (if_neg cc1).symm.trans h
    refine lv_aload_n hx hb dX10_tried_11 rfl (lv_at hl 0 rfl) ?_
    refine lv_iload_n hx hb dX10_tried_12 rfl (lv_at hl 2 rfl) ?_
    obtain ⟨q_1, hq_1, h⟩ := ob2 h
    refine kVI (As := [.int p2]) (rest := []) C0 (kt_X10_canTry l G h0 a0 f0 A0 p2 hq_1) gi_V_X10_329_X10_canTry (n := 1) rfl (by decide +kernel) rfl ⟨rfl, rfl, Nat.le_of_ble_eq_true rfl, Nat.le_of_ble_eq_true rfl⟩ hPD hS 0 10 rfl rfl rfl [0, 1, 2, 3, 4, 5, 6, 7, 8, 9, 10, 11, 12, 13, 14, 15, 16, 17, 18, 19, 20, 21, 22, 23, 24, 25, 26, 27, 28, 29, 30, 31, 32, 33] [] [0, 1, 2, 3, 4, 5, 6, 7, 8, 9, 10, 11, 12, 13, 14, 15, 16, 17, 18, 19, 20, 21, 22, 23, 24, 25, 26, 27, 28, 29, 30, 31, 32, 33] (wN := (wX10 G h0 a0 f0 A0)) rfl rfl rfl rfl rfl hl.1 (Nat.le_of_ble_eq_true rfl) dX10_tried_13 (fun H locs hPD hS => ?_)
    refine lv_if_ne (tgt := 21) hx hb dX10_tried_16 (by decide) (fun cc1 => ?_) (fun cc1 => ?_)
    · have h := (if_neg cc1).symm.trans h
      refine lv_aload_n hx hb dX10_tried_21 rfl (lv_at hl 0 rfl) ?_
      refine va_get (D := G.1) (ci := 10) (v := .ref (a0 0)) (C := RX10) (T := TX10) (N := 52) hx hb hts inlX10 hown hK hPD.1 0 rfl rfl 0 (by decide) (hts _ gw_539) (fun _ h9 => h9) rfl dX10_tried_22 ?_
      refine lv_aload_n hx hb dX10_tried_25 rfl (lv_at hl 0 rfl) ?_
      refine va_get (D := G.1) (ci := 10) (v := .ref (a0 1)) (C := RX10) (T := TX10) (N := 52) hx hb hts inlX10 hown hK hPD.1 0 rfl rfl 1 (by decide) (hts _ gw_719) (fun _ h9 => h9) rfl dX10_tried_26 ?_
      obtain ⟨q_2, hq_2, h⟩ := ob2 h
      refine kSV (As := [.ref (a0 0), .ref (a0 1)]) (rest := []) C0 (kt_X10_copies l G (a0 0) (a0 1) 76 (A0 0) 76 (A0 1) (by decide) (by decide) hq_2) gi_S_X10_290_X10_copies (n := 2) rfl (by decide +kernel) ⟨rfl, rfl, Nat.le_of_ble_eq_true rfl, Nat.le_of_ble_eq_true rfl⟩ hPD hS [1, 2] [0, 3, 4, 5, 6, 7, 8, 9, 10, 11, 12, 13, 14, 15, 16, 17, 18, 19, 20, 21, 22, 23, 24, 25, 26, 27, 28, 29, 30, 31, 32, 33] [0, 32, 33, 1, 2, 3, 4, 5, 6, 7, 8, 9, 10, 11, 12, 13, 14, 15, 16, 17, 18, 19, 20, 21, 22, 23, 24, 25, 26, 27, 28, 29, 30, 31] (wN := (wX10 G h0 a0 f0 (updA A0 1 q_2))) rfl rfl rfl rfl rfl hl.1 (Nat.le_of_ble_eq_true rfl) dX10_tried_29 (fun H locs hPD hS => ?_)
      obtain ⟨A0_3, eA0_3, h⟩ := lvl h
      have hPD : WD G DA (wX10 G h0 a0 f0 A0_3) H := by rw [eA0_3]; exact hPD
      clear eA0_3
      refine lv_aload_n hx hb dX10_tried_32 rfl (lv_at hl 0 rfl) ?_
      refine lv_iload_n hx hb dX10_tried_33 rfl (lv_at hl 1 rfl) ?_
      obtain ⟨q_4, hq_4, h⟩ := ob2 h
      refine kVV (As := [.int p1]) (rest := []) C0 (kt_X10_hoursGo l G h0 a0 f0 A0_3 p1 hq_4) gi_V_X10_326_X10_hoursGo (n := 1) rfl (by decide +kernel) rfl ⟨rfl, rfl, Nat.le_of_ble_eq_true rfl, Nat.le_of_ble_eq_true rfl⟩ hPD hS 0 10 rfl rfl rfl [0, 1, 2, 3, 4, 5, 6, 7, 8, 9, 10, 11, 12, 13, 14, 15, 16, 17, 18, 19, 20, 21, 22, 23, 24, 25, 26, 27, 28, 29, 30, 31, 32, 33] [] [0, 1, 2, 3, 4, 5, 6, 7, 8, 9, 10, 11, 12, 13, 14, 15, 16, 17, 18, 19, 20, 21, 22, 23, 24, 25, 26, 27, 28, 29, 30, 31, 32, 33] (wN := (wX10 G h0 a0 q_4.2 q_4.1)) rfl rfl rfl rfl rfl hl.1 (Nat.le_of_ble_eq_true rfl) dX10_tried_34 (fun H locs hPD hS => ?_)
      refine lv_iload_n hx hb dX10_tried_37 rfl (lv_at hl 2 rfl) ?_
      by_cases cc0 : p2 = 0
      · have h := (if_pos cc0).symm.trans h
        refine lv_swT (tgt := 64) (k := 0) hx hb dX10_tried_38 cc0 (by decide) (by decide) ?_
        refine lv_aload_n hx hb dX10_tried_64 rfl (lv_at hl 0 rfl) ?_
        refine va_get (D := G.1) (ci := 10) (v := .int (q_4.2 41)) (C := RX10) (T := TX10) (N := 52) hx hb hts inlX10 hown hK hPD.1 0 rfl rfl 41 (by decide) (hts _ gw_743) (fun _ h9 => h9) rfl dX10_tried_65 ?_
        refine lv_istore_n (lv' := [(3, .int (q_4.2 41)), (0, .ref h0), (1, .int p1), (2, .int p2)]) hx hb dX10_tried_68 rfl hl (by decide) rfl (fun ls hl => ?_)
        refine lv_goto (tgt := 154) hx hb dX10_tried_69 (by decide) ?_
        exact ww_f10_tried_b154 C0 q_4.1 q_4.2 (q_4.2 41) h _ _ _ hPD hS (lv_sub hl [1, 2, 3, 0] rfl)
      have h := (if_neg cc0).symm.trans h
      by_cases cc1 : p2 = 1
      · have h := (if_pos cc1).symm.trans h
        refine lv_swT (tgt := 72) (k := 1) hx hb dX10_tried_38 cc1 (by decide) (by decide) ?_
        refine lv_aload_n hx hb dX10_tried_72 rfl (lv_at hl 0 rfl) ?_
        refine va_get (D := G.1) (ci := 10) (v := .int (q_4.2 42)) (C := RX10) (T := TX10) (N := 52) hx hb hts inlX10 hown hK hPD.1 0 rfl rfl 42 (by decide) (hts _ gw_737) (fun _ h9 => h9) rfl dX10_tried_73 ?_
        refine lv_istore_n (lv' := [(3, .int (q_4.2 42)), (0, .ref h0), (1, .int p1), (2, .int p2)]) hx hb dX10_tried_76 rfl hl (by decide) rfl (fun ls hl => ?_)
        refine lv_goto (tgt := 154) hx hb dX10_tried_77 (by decide) ?_
        exact ww_f10_tried_b154 C0 q_4.1 q_4.2 (q_4.2 42) h _ _ _ hPD hS (lv_sub hl [1, 2, 3, 0] rfl)
      have h := (if_neg cc1).symm.trans h
      by_cases cc2 : p2 = 2
      · have h := (if_pos cc2).symm.trans h
        refine lv_swT (tgt := 80) (k := 2) hx hb dX10_tried_38 cc2 (by decide) (by decide) ?_
        refine lv_aload_n hx hb dX10_tried_80 rfl (lv_at hl 0 rfl) ?_
        refine va_get (D := G.1) (ci := 10) (v := .ref (a0 0)) (C := RX10) (T := TX10) (N := 52) hx hb hts inlX10 hown hK hPD.1 0 rfl rfl 0 (by decide) (hts _ gw_539) (fun _ h9 => h9) rfl dX10_tried_81 ?_
        refine lv_bipush (v := 72) hx hb dX10_tried_84 (by decide) ?_
        refine va_iald hx hb hK hPD.1 1 1 rfl rfl (vin rfl) dX10_tried_86 ?_
        refine lv_aload_n hx hb dX10_tried_87 rfl (lv_at hl 0 rfl) ?_
        refine va_get (D := G.1) (ci := 10) (v := .ref (a0 1)) (C := RX10) (T := TX10) (N := 52) hx hb hts inlX10 hown hK hPD.1 0 rfl rfl 1 (by decide) (hts _ gw_719) (fun _ h9 => h9) rfl dX10_tried_88 ?_
        refine lv_bipush (v := 72) hx hb dX10_tried_91 (by decide) ?_
        refine va_iald hx hb hK hPD.1 2 1 rfl rfl (vin rfl) dX10_tried_93 ?_
        refine lv_isub hx hb dX10_tried_94 ?_
        refine lv_istore_n (lv' := [(3, .int ((gx (q_4.1 0) 72) - (gx (q_4.1 1) 72))), (0, .ref h0), (1, .int p1), (2, .int p2)]) hx hb dX10_tried_95 rfl hl (by decide) rfl (fun ls hl => ?_)
        refine lv_goto (tgt := 154) hx hb dX10_tried_96 (by decide) ?_
        exact ww_f10_tried_b154 C0 q_4.1 q_4.2 ((gx (q_4.1 0) 72) - (gx (q_4.1 1) 72)) h _ _ _ hPD hS (lv_sub hl [1, 2, 3, 0] rfl)
      have h := (if_neg cc2).symm.trans h
      refine lv_swTD (tgt := 99) (ks := [0, 1, 2]) hx hb dX10_tried_38 (by decide) (by decide) ⟨cc0, cc1, cc2, trivial⟩ (by decide) ?_
      refine lv_iload_n hx hb dX10_tried_99 rfl (lv_at hl 2 rfl) ?_
      refine lv_bipush (v := 20) hx hb dX10_tried_100 (by decide) ?_
      refine lv_icmp_ge (tgt := 120) hx hb dX10_tried_102 (by decide) (fun cc1 => ?_) (fun cc1 => ?_)
      · have h := (if_pos cc1).symm.trans h
        refine lv_iload_n hx hb dX10_tried_120 rfl (lv_at hl 2 rfl) ?_
        refine lv_bipush (v := 30) hx hb dX10_tried_121 (by decide) ?_
        refine lv_icmp_ge (tgt := 141) hx hb dX10_tried_123 (by decide) (fun cc1 => ?_) (fun cc1 => ?_)
        · have h := (if_pos cc1).symm.trans h
          refine lv_aload_n hx hb dX10_tried_141 rfl (lv_at hl 0 rfl) ?_
          refine va_get (D := G.1) (ci := 10) (v := .ref (a0 0)) (C := RX10) (T := TX10) (N := 52) hx hb hts inlX10 hown hK hPD.1 0 rfl rfl 0 (by decide) (hts _ gw_539) (fun _ h9 => h9) rfl dX10_tried_142 ?_
          refine lv_bipush (v := 32) hx hb dX10_tried_145 (by decide) ?_
          refine lv_iload_n hx hb dX10_tried_147 rfl (lv_at hl 2 rfl) ?_
          refine lv_iadd hx hb dX10_tried_148 ?_
          refine lv_bipush (v := 30) hx hb dX10_tried_149 (by decide) ?_
          refine lv_isub hx hb dX10_tried_151 ?_
          obtain ⟨hi_7, h⟩ := ob h
          refine va_iald hx hb hK hPD.1 1 1 rfl rfl hi_7 dX10_tried_152 ?_
          refine lv_istore_n (lv' := [(3, .int (gx (q_4.1 0) ((32 + p2) - 30))), (0, .ref h0), (1, .int p1), (2, .int p2)]) hx hb dX10_tried_153 rfl hl (by decide) rfl (fun ls hl => ?_)
          exact ww_f10_tried_b154 C0 q_4.1 q_4.2 (gx (q_4.1 0) ((32 + p2) - 30)) h _ _ _ hPD hS (lv_sub hl [1, 2, 3, 0] rfl)
        · have h := (if_neg cc1).symm.trans h
          refine lv_aload_n hx hb dX10_tried_126 rfl (lv_at hl 0 rfl) ?_
          refine va_get (D := G.1) (ci := 10) (v := .ref (a0 0)) (C := RX10) (T := TX10) (N := 52) hx hb hts inlX10 hown hK hPD.1 0 rfl rfl 0 (by decide) (hts _ gw_539) (fun _ h9 => h9) rfl dX10_tried_127 ?_
          refine lv_bipush (v := 64) hx hb dX10_tried_130 (by decide) ?_
          refine lv_iload_n hx hb dX10_tried_132 rfl (lv_at hl 2 rfl) ?_
          refine lv_iadd hx hb dX10_tried_133 ?_
          refine lv_bipush (v := 20) hx hb dX10_tried_134 (by decide) ?_
          refine lv_isub hx hb dX10_tried_136 ?_
          obtain ⟨hi_8, h⟩ := ob h
          refine va_iald hx hb hK hPD.1 1 1 rfl rfl hi_8 dX10_tried_137 ?_
          refine lv_goto (tgt := 153) hx hb dX10_tried_138 (by decide) ?_
          refine lv_istore_n (lv' := [(3, .int (gx (q_4.1 0) ((64 + p2) - 20))), (0, .ref h0), (1, .int p1), (2, .int p2)]) hx hb dX10_tried_153 rfl hl (by decide) rfl (fun ls hl => ?_)
          exact ww_f10_tried_b154 C0 q_4.1 q_4.2 (gx (q_4.1 0) ((64 + p2) - 20)) h _ _ _ hPD hS (lv_sub hl [1, 2, 3, 0] rfl)
      · have h := (if_neg cc1).symm.trans h
        refine lv_aload_n hx hb dX10_tried_105 rfl (lv_at hl 0 rfl) ?_
        refine va_get (D := G.1) (ci := 10) (v := .ref (a0 0)) (C := RX10) (T := TX10) (N := 52) hx hb hts inlX10 hown hK hPD.1 0 rfl rfl 0 (by decide) (hts _ gw_539) (fun _ h9 => h9) rfl dX10_tried_106 ?_
        refine lv_bipush (v := 56) hx hb dX10_tried_109 (by decide) ?_
        refine lv_iload_n hx hb dX10_tried_111 rfl (lv_at hl 2 rfl) ?_
        refine lv_iadd hx hb dX10_tried_112 ?_
        refine lv_bipush (v := 10) hx hb dX10_tried_113 (by decide) ?_
        refine lv_isub hx hb dX10_tried_115 ?_
        obtain ⟨hi_9, h⟩ := ob h
        refine va_iald hx hb hK hPD.1 1 1 rfl rfl hi_9 dX10_tried_116 ?_
        refine lv_goto (tgt := 153) hx hb dX10_tried_117 (by decide) ?_
        refine lv_istore_n (lv' := [(3, .int (gx (q_4.1 0) ((56 + p2) - 10))), (0, .ref h0), (1, .int p1), (2, .int p2)]) hx hb dX10_tried_153 rfl hl (by decide) rfl (fun ls hl => ?_)
        exact ww_f10_tried_b154 C0 q_4.1 q_4.2 (gx (q_4.1 0) ((56 + p2) - 10)) h _ _ _ hPD hS (lv_sub hl [1, 2, 3, 0] rfl)
    · have h := (if_pos cc1).symm.trans h
      refine lv_iconst (v := (-1)) hx hb dX10_tried_19 (by decide) ?_
      obtain rfl := Option.some.inj h
      exact eI C0 hPD.1 hPD.2 hS rfl dX10_tried_20
abbrev rmX10_placeIs : Room := { frames := 3, cells := 0, slots := 0, locals := 66 }
set_option maxRecDepth 100000 in
set_option maxHeartbeats 4000000 in
theorem kt_X10_placeIs (l : Launch) (G : Gp) (h0 : Nat) (a0 : Nat → Nat) (f0 : Nat → Int32) (A0 : Nat → Nat → Int32) (p1 : Int32) (p2 : Int32) : ∀ {r : Int32}, f10_placeIs f0 A0 p1 p2 = some r → CtrI l yX10_placeIs cX10_placeIs 3 (some .int) rmX10_placeIs G [.ref h0, .int p1, .int p2] (wX10 G h0 a0 f0 A0) r (wX10 G h0 a0 f0 A0) := by
  intro res h
  refine ctrI_of (cc := cX10_placeIs) (maxL := 3) (ret := (some .int)) (by decide +kernel) rfl (Nat.le_of_ble_eq_true rfl) (fun p e s m below meth c DA C0 hP hD ls hl => ?_)
  have hPD : WD G DA (wX10 G h0 a0 f0 A0) s.heap := ⟨hP, hD⟩
  have hS : va_S DA s.heap s.heap [] := va_S.rf
  have hl : lv_has ls 3 [(0, .ref h0), (1, .int p1), (2, .int p2)] := hl
  obtain ⟨hx, hb, hml, hown, hts⟩ := C0.1
  have hK := C0.2.2.2.1
  unfold f10_placeIs at h
  refine lv_aload_n hx hb dX10_placeIs_0 rfl (lv_at hl 0 rfl) ?_
  refine lv_iload_n hx hb dX10_placeIs_1 rfl (lv_at hl 1 rfl) ?_
  refine kVI (As := [.int p1]) (rest := []) C0 (kt_X10_isTold l G h0 a0 f0 A0 p1) gi_V_X10_128_X10_isTold (n := 1) rfl (by decide +kernel) rfl ⟨rfl, rfl, Nat.le_of_ble_eq_true rfl, Nat.le_of_ble_eq_true rfl⟩ hPD hS 0 10 rfl rfl rfl [0, 1, 2, 3, 4, 5, 6, 7, 8, 9, 10, 11, 12, 13, 14, 15, 16, 17, 18, 19, 20, 21, 22, 23, 24, 25, 26, 27, 28, 29, 30, 31, 32, 33] [] [0, 1, 2, 3, 4, 5, 6, 7, 8, 9, 10, 11, 12, 13, 14, 15, 16, 17, 18, 19, 20, 21, 22, 23, 24, 25, 26, 27, 28, 29, 30, 31, 32, 33] (wN := (wX10 G h0 a0 f0 A0)) rfl rfl rfl rfl rfl hl.1 (Nat.le_of_ble_eq_true rfl) dX10_placeIs_2 (fun H locs hPD hS => ?_)
  refine lv_if_ne (tgt := 10) hx hb dX10_placeIs_5 (by decide) (fun cc1 => ?_) (fun cc1 => ?_)
  · have h := (if_neg cc1).symm.trans h
    refine lv_iload_n hx hb dX10_placeIs_10 rfl (lv_at hl 2 rfl) ?_
    by_cases cc0 : p2 = 0
    · have h := (if_pos cc0).symm.trans h
      refine lv_swT (tgt := 44) (k := 0) hx hb dX10_placeIs_11 cc0 (by decide) (by decide) ?_
      refine lv_aload_n hx hb dX10_placeIs_44 rfl (lv_at hl 0 rfl) ?_
      refine va_get (D := G.1) (ci := 10) (v := .ref (a0 0)) (C := RX10) (T := TX10) (N := 52) hx hb hts inlX10 hown hK hPD.1 0 rfl rfl 0 (by decide) (hts _ gw_539) (fun _ h9 => h9) rfl dX10_placeIs_45 ?_
      refine lv_iconst (v := 0) hx hb dX10_placeIs_48 (by decide) ?_
      refine lv_iload_n hx hb dX10_placeIs_49 rfl (lv_at hl 1 rfl) ?_
      refine lv_iadd hx hb dX10_placeIs_50 ?_
      obtain ⟨hi_1, h⟩ := ob h
      refine va_iald hx hb hK hPD.1 1 1 rfl rfl hi_1 dX10_placeIs_51 ?_
      obtain rfl := Option.some.inj h
      exact eI C0 hPD.1 hPD.2 hS rfl dX10_placeIs_52
    have h := (if_neg cc0).symm.trans h
    by_cases cc1 : p2 = 1
    · have h := (if_pos cc1).symm.trans h
      refine lv_swT (tgt := 53) (k := 1) hx hb dX10_placeIs_11 cc1 (by decide) (by decide) ?_
      refine lv_aload_n hx hb dX10_placeIs_53 rfl (lv_at hl 0 rfl) ?_
      refine va_get (D := G.1) (ci := 10) (v := .ref (a0 0)) (C := RX10) (T := TX10) (N := 52) hx hb hts inlX10 hown hK hPD.1 0 rfl rfl 0 (by decide) (hts _ gw_539) (fun _ h9 => h9) rfl dX10_placeIs_54 ?_
      refine lv_bipush (v := 16) hx hb dX10_placeIs_57 (by decide) ?_
      refine lv_iload_n hx hb dX10_placeIs_59 rfl (lv_at hl 1 rfl) ?_
      refine lv_iadd hx hb dX10_placeIs_60 ?_
      obtain ⟨hi_2, h⟩ := ob h
      refine va_iald hx hb hK hPD.1 1 1 rfl rfl hi_2 dX10_placeIs_61 ?_
      obtain rfl := Option.some.inj h
      exact eI C0 hPD.1 hPD.2 hS rfl dX10_placeIs_62
    have h := (if_neg cc1).symm.trans h
    by_cases cc2 : p2 = 2
    · have h := (if_pos cc2).symm.trans h
      refine lv_swT (tgt := 63) (k := 2) hx hb dX10_placeIs_11 cc2 (by decide) (by decide) ?_
      refine lv_aload_n hx hb dX10_placeIs_63 rfl (lv_at hl 0 rfl) ?_
      refine va_get (D := G.1) (ci := 10) (v := .ref (a0 0)) (C := RX10) (T := TX10) (N := 52) hx hb hts inlX10 hown hK hPD.1 0 rfl rfl 0 (by decide) (hts _ gw_539) (fun _ h9 => h9) rfl dX10_placeIs_64 ?_
      refine lv_bipush (v := 32) hx hb dX10_placeIs_67 (by decide) ?_
      refine lv_iload_n hx hb dX10_placeIs_69 rfl (lv_at hl 1 rfl) ?_
      refine lv_iadd hx hb dX10_placeIs_70 ?_
      obtain ⟨hi_3, h⟩ := ob h
      refine va_iald hx hb hK hPD.1 1 1 rfl rfl hi_3 dX10_placeIs_71 ?_
      obtain rfl := Option.some.inj h
      exact eI C0 hPD.1 hPD.2 hS rfl dX10_placeIs_72
    have h := (if_neg cc2).symm.trans h
    by_cases cc3 : p2 = 3
    · have h := (if_pos cc3).symm.trans h
      refine lv_swT (tgt := 73) (k := 3) hx hb dX10_placeIs_11 cc3 (by decide) (by decide) ?_
      refine lv_aload_n hx hb dX10_placeIs_73 rfl (lv_at hl 0 rfl) ?_
      refine lv_iload_n hx hb dX10_placeIs_74 rfl (lv_at hl 1 rfl) ?_
      obtain ⟨q_4, hq_4, h⟩ := ob2 h
      refine kVI (As := [.int p1]) (rest := []) C0 (kt_X10_menAt l G h0 a0 f0 A0 p1 hq_4) gi_V_X10_241_X10_menAt (n := 1) rfl (by decide +kernel) rfl ⟨rfl, rfl, Nat.le_of_ble_eq_true rfl, Nat.le_of_ble_eq_true rfl⟩ hPD hS 0 10 rfl rfl rfl [0, 1, 2, 3, 4, 5, 6, 7, 8, 9, 10, 11, 12, 13, 14, 15, 16, 17, 18, 19, 20, 21, 22, 23, 24, 25, 26, 27, 28, 29, 30, 31, 32, 33] [] [0, 1, 2, 3, 4, 5, 6, 7, 8, 9, 10, 11, 12, 13, 14, 15, 16, 17, 18, 19, 20, 21, 22, 23, 24, 25, 26, 27, 28, 29, 30, 31, 32, 33] (wN := (wX10 G h0 a0 f0 A0)) rfl rfl rfl rfl rfl hl.1 (Nat.le_of_ble_eq_true rfl) dX10_placeIs_75 (fun H locs hPD hS => ?_)
      obtain rfl := Option.some.inj h
      exact eI C0 hPD.1 hPD.2 hS rfl dX10_placeIs_78
    have h := (if_neg cc3).symm.trans h
    by_cases cc4 : p2 = 4
    · have h := (if_pos cc4).symm.trans h
      refine lv_swT (tgt := 79) (k := 4) hx hb dX10_placeIs_11 cc4 (by decide) (by decide) ?_
      refine lv_aload_n hx hb dX10_placeIs_79 rfl (lv_at hl 0 rfl) ?_
      refine va_get (D := G.1) (ci := 10) (v := .ref (a0 3)) (C := RX10) (T := TX10) (N := 52) hx hb hts inlX10 hown hK hPD.1 0 rfl rfl 3 (by decide) (hts _ gw_666) (fun _ h9 => h9) rfl dX10_placeIs_80 ?_
      refine lv_iload_n hx hb dX10_placeIs_83 rfl (lv_at hl 1 rfl) ?_
      obtain ⟨hi_5, h⟩ := ob h
      refine va_iald hx hb hK hPD.1 4 1 rfl rfl hi_5 dX10_placeIs_84 ?_
      obtain rfl := Option.some.inj h
      exact eI C0 hPD.1 hPD.2 hS rfl dX10_placeIs_85
    have h := (if_neg cc4).symm.trans h
    refine lv_swTD (tgt := 86) (ks := [0, 1, 2, 3, 4]) hx hb dX10_placeIs_11 (by decide) (by decide) ⟨cc0, cc1, cc2, cc3, cc4, trivial⟩ (by decide) ?_
    refine lv_iconst (v := (-1)) hx hb dX10_placeIs_86 (by decide) ?_
    obtain rfl := Option.some.inj h
    exact eI C0 hPD.1 hPD.2 hS rfl dX10_placeIs_87
  · have h := (if_pos cc1).symm.trans h
    refine lv_iconst (v := (-1)) hx hb dX10_placeIs_8 (by decide) ?_
    obtain rfl := Option.some.inj h
    exact eI C0 hPD.1 hPD.2 hS rfl dX10_placeIs_9
abbrev rmX10_constableIs : Room := { frames := 2, cells := 0, slots := 0, locals := 43 }
set_option maxRecDepth 100000 in
set_option maxHeartbeats 4000000 in
theorem kt_X10_constableIs (l : Launch) (G : Gp) (h0 : Nat) (a0 : Nat → Nat) (f0 : Nat → Int32) (A0 : Nat → Nat → Int32) (p1 : Int32) (p2 : Int32) : ∀ {r : Int32}, f10_constableIs f0 A0 p1 p2 = some r → CtrI l yX10_constableIs cX10_constableIs 3 (some .int) rmX10_constableIs G [.ref h0, .int p1, .int p2] (wX10 G h0 a0 f0 A0) r (wX10 G h0 a0 f0 A0) := by
  intro res h
  refine ctrI_of (cc := cX10_constableIs) (maxL := 3) (ret := (some .int)) (by decide +kernel) rfl (Nat.le_of_ble_eq_true rfl) (fun p e s m below meth c DA C0 hP hD ls hl => ?_)
  have hPD : WD G DA (wX10 G h0 a0 f0 A0) s.heap := ⟨hP, hD⟩
  have hS : va_S DA s.heap s.heap [] := va_S.rf
  have hl : lv_has ls 3 [(0, .ref h0), (1, .int p1), (2, .int p2)] := hl
  obtain ⟨hx, hb, hml, hown, hts⟩ := C0.1
  have hK := C0.2.2.2.1
  unfold f10_constableIs at h
  refine lv_aload_n hx hb dX10_constableIs_0 rfl (lv_at hl 0 rfl) ?_
  refine lv_iload_n hx hb dX10_constableIs_1 rfl (lv_at hl 1 rfl) ?_
  obtain ⟨q_1, hq_1, h⟩ := ob2 h
  refine kVI (As := [.int p1]) (rest := []) C0 (kt_X10_isMan l G h0 a0 f0 A0 p1 hq_1) gi_V_X10_124_X10_isMan (n := 1) rfl (by decide +kernel) rfl ⟨rfl, rfl, Nat.le_of_ble_eq_true rfl, Nat.le_of_ble_eq_true rfl⟩ hPD hS 0 10 rfl rfl rfl [0, 1, 2, 3, 4, 5, 6, 7, 8, 9, 10, 11, 12, 13, 14, 15, 16, 17, 18, 19, 20, 21, 22, 23, 24, 25, 26, 27, 28, 29, 30, 31, 32, 33] [] [0, 1, 2, 3, 4, 5, 6, 7, 8, 9, 10, 11, 12, 13, 14, 15, 16, 17, 18, 19, 20, 21, 22, 23, 24, 25, 26, 27, 28, 29, 30, 31, 32, 33] (wN := (wX10 G h0 a0 f0 A0)) rfl rfl rfl rfl rfl hl.1 (Nat.le_of_ble_eq_true rfl) dX10_constableIs_2 (fun H locs hPD hS => ?_)
  refine lv_if_ne (tgt := 10) hx hb dX10_constableIs_5 (by decide) (fun cc1 => ?_) (fun cc1 => ?_)
  · have h := (if_neg cc1).symm.trans h
    refine lv_iload_n hx hb dX10_constableIs_10 rfl (lv_at hl 2 rfl) ?_
    refine lv_if_ne (tgt := 26) hx hb dX10_constableIs_11 (by decide) (fun cc1 => ?_) (fun cc1 => ?_)
    · have h := (if_neg cc1).symm.trans h
      refine lv_iload_n hx hb dX10_constableIs_26 rfl (lv_at hl 2 rfl) ?_
      refine lv_iconst (v := 1) hx hb dX10_constableIs_27 (by decide) ?_
      refine lv_icmp_ne (tgt := 43) hx hb dX10_constableIs_28 (by decide) (fun cc1 => ?_) (fun cc1 => ?_)
      · have h := (if_neg cc1).symm.trans h
        refine lv_iload_n hx hb dX10_constableIs_43 rfl (lv_at hl 2 rfl) ?_
        refine lv_iconst (v := 2) hx hb dX10_constableIs_44 (by decide) ?_
        refine lv_icmp_ne (tgt := 57) hx hb dX10_constableIs_45 (by decide) (fun cc1 => ?_) (fun cc1 => ?_)
        · have h := (if_neg cc1).symm.trans h
          refine lv_iconst (v := (-1)) hx hb dX10_constableIs_57 (by decide) ?_
          obtain rfl := Option.some.inj h
          exact eI C0 hPD.1 hPD.2 hS rfl dX10_constableIs_58
        · have h := (if_pos cc1).symm.trans h
          refine lv_aload_n hx hb dX10_constableIs_48 rfl (lv_at hl 0 rfl) ?_
          refine va_get (D := G.1) (ci := 10) (v := .ref (a0 4)) (C := RX10) (T := TX10) (N := 52) hx hb hts inlX10 hown hK hPD.1 0 rfl rfl 4 (by decide) (hts _ gw_698) (fun _ h9 => h9) rfl dX10_constableIs_49 ?_
          refine lv_iload_n hx hb dX10_constableIs_52 rfl (lv_at hl 1 rfl) ?_
          obtain ⟨hi_2, h⟩ := ob h
          refine va_iald hx hb hK hPD.1 5 1 rfl rfl hi_2 dX10_constableIs_53 ?_
          refine lv_goto (tgt := 58) hx hb dX10_constableIs_54 (by decide) ?_
          obtain rfl := Option.some.inj h
          exact eI C0 hPD.1 hPD.2 hS rfl dX10_constableIs_58
      · have h := (if_pos cc1).symm.trans h
        refine lv_aload_n hx hb dX10_constableIs_31 rfl (lv_at hl 0 rfl) ?_
        refine va_get (D := G.1) (ci := 10) (v := .ref (a0 0)) (C := RX10) (T := TX10) (N := 52) hx hb hts inlX10 hown hK hPD.1 0 rfl rfl 0 (by decide) (hts _ gw_539) (fun _ h9 => h9) rfl dX10_constableIs_32 ?_
        refine lv_bipush (v := 64) hx hb dX10_constableIs_35 (by decide) ?_
        refine lv_iload_n hx hb dX10_constableIs_37 rfl (lv_at hl 1 rfl) ?_
        refine lv_iadd hx hb dX10_constableIs_38 ?_
        obtain ⟨hi_3, h⟩ := ob h
        refine va_iald hx hb hK hPD.1 1 1 rfl rfl hi_3 dX10_constableIs_39 ?_
        refine lv_goto (tgt := 58) hx hb dX10_constableIs_40 (by decide) ?_
        obtain rfl := Option.some.inj h
        exact eI C0 hPD.1 hPD.2 hS rfl dX10_constableIs_58
    · have h := (if_pos cc1).symm.trans h
      refine lv_aload_n hx hb dX10_constableIs_14 rfl (lv_at hl 0 rfl) ?_
      refine va_get (D := G.1) (ci := 10) (v := .ref (a0 0)) (C := RX10) (T := TX10) (N := 52) hx hb hts inlX10 hown hK hPD.1 0 rfl rfl 0 (by decide) (hts _ gw_539) (fun _ h9 => h9) rfl dX10_constableIs_15 ?_
      refine lv_bipush (v := 56) hx hb dX10_constableIs_18 (by decide) ?_
      refine lv_iload_n hx hb dX10_constableIs_20 rfl (lv_at hl 1 rfl) ?_
      refine lv_iadd hx hb dX10_constableIs_21 ?_
      obtain ⟨hi_4, h⟩ := ob h
      refine va_iald hx hb hK hPD.1 1 1 rfl rfl hi_4 dX10_constableIs_22 ?_
      refine lv_goto (tgt := 58) hx hb dX10_constableIs_23 (by decide) ?_
      obtain rfl := Option.some.inj h
      exact eI C0 hPD.1 hPD.2 hS rfl dX10_constableIs_58
  · have h := (if_pos cc1).symm.trans h
    refine lv_iconst (v := (-1)) hx hb dX10_constableIs_8 (by decide) ?_
    obtain rfl := Option.some.inj h
    exact eI C0 hPD.1 hPD.2 hS rfl dX10_constableIs_9
abbrev rmX10_alone : Room := { frames := 8, cells := 0, slots := 0, locals := 177 }
set_option maxRecDepth 100000 in
set_option maxHeartbeats 4000000 in
theorem ww_f10_alone_b93  (C0 : Cx cX10_alone 6 (some .int) RX10 p s m args meth c G DA) {h0 : Nat} {a0 : Nat → Nat} {p1 : Int32} {p2 : Int32}   {res : Int32 × (Nat → Nat → Int32) × (Nat → Int32)}  : ∀ (A0 : Nat → Nat → Int32) (f0 : Nat → Int32) (l4 : Int32), f10_alone_b93 p1 p2  A0 f0 l4 = some res → ∀ (H : Heap) (locs : List Loc) (ls : Array Slot), WD G DA (wX10 G h0 a0 f0 A0) H → va_S DA s.heap H locs → lv_has ls 6 [(0, .ref h0), (1, .int p1), (2, .int p2), (4, .int l4)] → W p l e rmX10_alone s m args below meth c H locs 0 0 (MQ below (QI G DA res.1 (wX10 G h0 a0 res.2.2 res.2.1)) args s 0 0 DA) (F0 m 93 ls []) := by
  obtain ⟨hx, hb, hml, hown, hts⟩ := C0.1
  have hK := C0.2.2.2.1
  intro A0 f0 l4 h _ _ _ hPD hS hl
  unfold f10_alone_b93 at h
  refine lv_aload_n hx hb dX10_alone_93 rfl (lv_at hl 0 rfl) ?_
  refine va_get (D := G.1) (ci := 10) (v := .ref (a0 1)) (C := RX10) (T := TX10) (N := 52) hx hb hts inlX10 hown hK hPD.1 0 rfl rfl 1 (by decide) (hts _ gw_719) (fun _ h9 => h9) rfl dX10_alone_94 ?_
  refine lv_aload_n hx hb dX10_alone_97 rfl (lv_at hl 0 rfl) ?_
  refine va_get (D := G.1) (ci := 10) (v := .ref (a0 0)) (C := RX10) (T := TX10) (N := 52) hx hb hts inlX10 hown hK hPD.1 0 rfl rfl 0 (by decide) (hts _ gw_539) (fun _ h9 => h9) rfl dX10_alone_98 ?_
  obtain ⟨q_3, hq_3, h⟩ := ob2 h
  refine kSV (As := [.ref (a0 1), .ref (a0 0)]) (rest := []) C0 (kt_X10_copies l G (a0 1) (a0 0) 76 (A0 1) 76 (A0 0) (by decide) (by decide) hq_3) gi_S_X10_290_X10_copies (n := 2) rfl (by decide +kernel) ⟨rfl, rfl, Nat.le_of_ble_eq_true rfl, Nat.le_of_ble_eq_true rfl⟩ hPD hS [2, 1] [0, 3, 4, 5, 6, 7, 8, 9, 10, 11, 12, 13, 14, 15, 16, 17, 18, 19, 20, 21, 22, 23, 24, 25, 26, 27, 28, 29, 30, 31, 32, 33] [0, 33, 32, 1, 2, 3, 4, 5, 6, 7, 8, 9, 10, 11, 12, 13, 14, 15, 16, 17, 18, 19, 20, 21, 22, 23, 24, 25, 26, 27, 28, 29, 30, 31] (wN := (wX10 G h0 a0 f0 (updA A0 0 q_3))) rfl rfl rfl rfl rfl hl.1 (Nat.le_of_ble_eq_true rfl) dX10_alone_101 (fun H locs hPD hS => ?_)
  obtain ⟨A0_4, eA0_4, h⟩ := lvl h
  have hPD : WD G DA (wX10 G h0 a0 f0 A0_4) H := by rw [eA0_4]; exact hPD
  clear eA0_4
  refine lv_iload hx hb dX10_alone_104 (lv_at hl 3 rfl) ?_
  obtain rfl := Option.some.inj h
  exact eI C0 hPD.1 hPD.2 hS rfl dX10_alone_106
set_option maxRecDepth 100000 in
set_option maxHeartbeats 4000000 in
theorem ww_f10_alone_b78  (C0 : Cx cX10_alone 6 (some .int) RX10 p s m args meth c G DA) {h0 : Nat} {a0 : Nat → Nat} {p1 : Int32} {p2 : Int32}  {k40 : (Nat → Nat → Int32) → (Nat → Int32) → Int32 → Int32 → Int32 → Option (Int32 × (Nat → Nat → Int32) × (Nat → Int32))} {res : Int32 × (Nat → Nat → Int32) × (Nat → Int32)} (hk40 : ∀ (A0 : Nat → Nat → Int32) (f0 : Nat → Int32) (l3 : Int32) (l4 : Int32) (l5 : Int32), k40 A0 f0 l3 l4 l5 = some res → ∀ (H : Heap) (locs : List Loc) (ls : Array Slot), WD G DA (wX10 G h0 a0 f0 A0) H → va_S DA s.heap H locs → lv_has ls 6 [(0, .ref h0), (1, .int p1), (2, .int p2), (3, .int l3), (4, .int l4), (5, .int l5)] → W p l e rmX10_alone s m args below meth c H locs 0 0 (MQ below (QI G DA res.1 (wX10 G h0 a0 res.2.2 res.2.1)) args s 0 0 DA) (F0 m 40 ls [])) : ∀ (A0 : Nat → Nat → Int32) (f0 : Nat → Int32) (l4 : Int32) (l5 : Int32) (s0 : Int32), f10_alone_b78 p1 p2 k40 A0 f0 l4 l5 s0 = some res → ∀ (H : Heap) (locs : List Loc) (ls : Array Slot), WD G DA (wX10 G h0 a0 f0 A0) H → va_S DA s.heap H locs → lv_has ls 6 [(0, .ref h0), (1, .int p1), (2, .int p2), (4, .int l4), (5, .int l5)] → W p l e rmX10_alone s m args below meth c H locs 0 0 (MQ below (QI G DA res.1 (wX10 G h0 a0 res.2.2 res.2.1)) args s 0 0 DA) (F0 m 78 ls [.int s0]) := by
  obtain ⟨hx, hb, hml, hown, hts⟩ := C0.1
  have hK := C0.2.2.2.1
  intro A0 f0 l4 l5 s0 h _ _ _ hPD hS hl
  unfold f10_alone_b78 at h
  refine lv_istore_n (lv' := [(3, .int s0), (0, .ref h0), (1, .int p1), (2, .int p2), (4, .int l4), (5, .int l5)]) hx hb dX10_alone_78 rfl hl (by decide) rfl (fun ls hl => ?_)
  refine lv_iload hx hb dX10_alone_79 (lv_at hl 4 rfl) ?_
  refine lv_iload_n hx hb dX10_alone_81 rfl (lv_at hl 0 rfl) ?_
  refine kSI (As := [.int l4, .int s0]) (rest := []) C0 (kt_X10_max l G  l4 s0) gi_S_X10_287_X10_max (n := 2) rfl (by decide +kernel) ⟨rfl, rfl, Nat.le_of_ble_eq_true rfl, Nat.le_of_ble_eq_true rfl⟩ hPD hS [] [0, 1, 2, 3, 4, 5, 6, 7, 8, 9, 10, 11, 12, 13, 14, 15, 16, 17, 18, 19, 20, 21, 22, 23, 24, 25, 26, 27, 28, 29, 30, 31, 32, 33] [0, 1, 2, 3, 4, 5, 6, 7, 8, 9, 10, 11, 12, 13, 14, 15, 16, 17, 18, 19, 20, 21, 22, 23, 24, 25, 26, 27, 28, 29, 30, 31, 32, 33] (wN := (wX10 G h0 a0 f0 A0)) rfl rfl rfl rfl rfl hl.1 (Nat.le_of_ble_eq_true rfl) dX10_alone_82 (fun H locs hPD hS => ?_)
  refine lv_istore (lv' := [(4, .int (f10_max l4 s0)), (3, .int s0), (0, .ref h0), (1, .int p1), (2, .int p2), (5, .int l5)]) hx hb dX10_alone_85 hl (by decide) rfl (fun ls hl => ?_)
  refine lv_iinc (v := l5 + 1) (lv' := [(5, .int (l5 + 1)), (4, .int (f10_max l4 s0)), (3, .int s0), (0, .ref h0), (1, .int p1), (2, .int p2)]) hx hb dX10_alone_87 hl (k := 5) rfl rfl (by decide) rfl (fun ls hl => ?_)
  refine lv_goto (tgt := 40) hx hb dX10_alone_90 (by decide) ?_
  exact hk40 A0 f0 s0 (f10_max l4 s0) (l5 + 1) h _ _ _ hPD hS (lv_sub hl [3, 4, 5, 2, 1, 0] rfl)
set_option maxRecDepth 100000 in
set_option maxHeartbeats 4000000 in
theorem ww_f10_alone_b40  (C0 : Cx cX10_alone 6 (some .int) RX10 p s m args meth c G DA) {h0 : Nat} {a0 : Nat → Nat} {p1 : Int32} {p2 : Int32}  {k40 : (Nat → Nat → Int32) → (Nat → Int32) → Int32 → Int32 → Int32 → Option (Int32 × (Nat → Nat → Int32) × (Nat → Int32))} {res : Int32 × (Nat → Nat → Int32) × (Nat → Int32)}  (hk40 : ∀ (A0 : Nat → Nat → Int32) (f0 : Nat → Int32) (l3 : Int32) (l4 : Int32) (l5 : Int32), k40 A0 f0 l3 l4 l5 = some res → ∀ (H : Heap) (locs : List Loc) (ls : Array Slot), WD G DA (wX10 G h0 a0 f0 A0) H → va_S DA s.heap H locs → lv_has ls 6 [(0, .ref h0), (1, .int p1), (2, .int p2), (3, .int l3), (4, .int l4), (5, .int l5)] → W p l e rmX10_alone s m args below meth c H locs 0 0 (MQ below (QI G DA res.1 (wX10 G h0 a0 res.2.2 res.2.1)) args s 0 0 DA) (F0 m 40 ls [])) : ∀ (A0 : Nat → Nat → Int32) (f0 : Nat → Int32) (l3 : Int32) (l4 : Int32) (l5 : Int32), f10_alone_b40 p1 p2  k40 A0 f0 l3 l4 l5 = some res → ∀ (H : Heap) (locs : List Loc) (ls : Array Slot), WD G DA (wX10 G h0 a0 f0 A0) H → va_S DA s.heap H locs → lv_has ls 6 [(0, .ref h0), (1, .int p1), (2, .int p2), (3, .int l3), (4, .int l4), (5, .int l5)] → W p l e rmX10_alone s m args below meth c H locs 0 0 (MQ below (QI G DA res.1 (wX10 G h0 a0 res.2.2 res.2.1)) args s 0 0 DA) (F0 m 40 ls []) := by
  obtain ⟨hx, hb, hml, hown, hts⟩ := C0.1
  have hK := C0.2.2.2.1
  intro A0 f0 l3 l4 l5 h _ _ _ hPD hS hl
  unfold f10_alone_b40 at h
  refine lv_iload hx hb dX10_alone_40 (lv_at hl 5 rfl) ?_
  refine lv_iload_n hx hb dX10_alone_42 rfl (lv_at hl 2 rfl) ?_
  refine lv_icmp_ge (tgt := 93) hx hb dX10_alone_43 (by decide) (fun cc1 => ?_) (fun cc1 => ?_)
  · have h := (if_pos cc1).symm.trans h
    exact ww_f10_alone_b93 C0 A0 f0 l4 h _ _ _ hPD hS (lv_sub hl [0, 1, 2, 4] rfl)
  · have h := (if_neg cc1).symm.trans h
    refine lv_aload_n hx hb dX10_alone_46 rfl (lv_at hl 0 rfl) ?_
    refine va_get (D := G.1) (ci := 10) (v := .ref (a0 0)) (C := RX10) (T := TX10) (N := 52) hx hb hts inlX10 hown hK hPD.1 0 rfl rfl 0 (by decide) (hts _ gw_539) (fun _ h9 => h9) rfl dX10_alone_47 ?_
    refine lv_bipush (v := 74) hx hb dX10_alone_50 (by decide) ?_
    refine va_iald hx hb hK hPD.1 1 1 rfl rfl (vin rfl) dX10_alone_52 ?_
    refine lv_sipush (v := 9999) hx hb dX10_alone_53 (by decide) ?_
    refine lv_icmp_ge (tgt := 93) hx hb dX10_alone_56 (by decide) (fun cc1 => ?_) (fun cc1 => ?_)
    · have h := (if_pos cc1).symm.trans h
      exact ww_f10_alone_b93 C0 A0 f0 l4 h _ _ _ hPD hS (lv_sub hl [0, 1, 2, 4] rfl)
    · have h := (if_neg cc1).symm.trans h
      refine lv_aload_n hx hb dX10_alone_59 rfl (lv_at hl 0 rfl) ?_
      obtain ⟨q_5, hq_5, h⟩ := ob2 h
      refine kVV (As := []) (rest := []) C0 (kt_X10_hourGoes l G h0 a0 f0 A0 hq_5) gi_V_X10_323_X10_hourGoes (n := 0) rfl (by decide +kernel) rfl ⟨rfl, rfl, Nat.le_of_ble_eq_true rfl, Nat.le_of_ble_eq_true rfl⟩ hPD hS 0 10 rfl rfl rfl [0, 1, 2, 3, 4, 5, 6, 7, 8, 9, 10, 11, 12, 13, 14, 15, 16, 17, 18, 19, 20, 21, 22, 23, 24, 25, 26, 27, 28, 29, 30, 31, 32, 33] [] [0, 1, 2, 3, 4, 5, 6, 7, 8, 9, 10, 11, 12, 13, 14, 15, 16, 17, 18, 19, 20, 21, 22, 23, 24, 25, 26, 27, 28, 29, 30, 31, 32, 33] (wN := (wX10 G h0 a0 q_5.2 q_5.1)) rfl rfl rfl rfl rfl hl.1 (Nat.le_of_ble_eq_true rfl) dX10_alone_60 (fun H locs hPD hS => ?_)
      refine lv_aload_n hx hb dX10_alone_63 rfl (lv_at hl 0 rfl) ?_
      refine lv_iload_n hx hb dX10_alone_64 rfl (lv_at hl 1 rfl) ?_
      obtain ⟨q_6, hq_6, h⟩ := ob2 h
      refine kVI (As := [.int p1]) (rest := []) C0 (kt_X10_menAt l G h0 a0 q_5.2 q_5.1 p1 hq_6) gi_V_X10_241_X10_menAt (n := 1) rfl (by decide +kernel) rfl ⟨rfl, rfl, Nat.le_of_ble_eq_true rfl, Nat.le_of_ble_eq_true rfl⟩ hPD hS 0 10 rfl rfl rfl [0, 1, 2, 3, 4, 5, 6, 7, 8, 9, 10, 11, 12, 13, 14, 15, 16, 17, 18, 19, 20, 21, 22, 23, 24, 25, 26, 27, 28, 29, 30, 31, 32, 33] [] [0, 1, 2, 3, 4, 5, 6, 7, 8, 9, 10, 11, 12, 13, 14, 15, 16, 17, 18, 19, 20, 21, 22, 23, 24, 25, 26, 27, 28, 29, 30, 31, 32, 33] (wN := (wX10 G h0 a0 q_5.2 q_5.1)) rfl rfl rfl rfl rfl hl.1 (Nat.le_of_ble_eq_true rfl) dX10_alone_65 (fun H locs hPD hS => ?_)
      refine lv_if_eq (tgt := 75) hx hb dX10_alone_68 (by decide) (fun cc1 => ?_) (fun cc1 => ?_)
      · have h := (if_pos cc1).symm.trans h
        refine lv_iload_n hx hb dX10_alone_75 rfl (lv_at hl 3 rfl) ?_
        refine lv_iconst (v := 1) hx hb dX10_alone_76 (by decide) ?_
        refine lv_iadd hx hb dX10_alone_77 ?_
        exact ww_f10_alone_b78 C0 hk40 q_5.1 q_5.2 l4 l5 (l3 + 1) h _ _ _ hPD hS (lv_sub hl [0, 1, 2, 4, 5] rfl)
      · have h := (if_neg cc1).symm.trans h
        refine lv_iconst (v := 0) hx hb dX10_alone_71 (by decide) ?_
        refine lv_goto (tgt := 78) hx hb dX10_alone_72 (by decide) ?_
        exact ww_f10_alone_b78 C0 hk40 q_5.1 q_5.2 l4 l5 0 h _ _ _ hPD hS (lv_sub hl [0, 1, 2, 4, 5] rfl)
set_option maxRecDepth 100000 in
set_option maxHeartbeats 4000000 in
theorem ww_f10_alone_l40  (C0 : Cx cX10_alone 6 (some .int) RX10 p s m args meth c G DA) {h0 : Nat} {a0 : Nat → Nat} {p1 : Int32} {p2 : Int32}   {res : Int32 × (Nat → Nat → Int32) × (Nat → Int32)}  : ∀ (n : Nat) (A0 : Nat → Nat → Int32) (f0 : Nat → Int32) (l3 : Int32) (l4 : Int32) (l5 : Int32), f10_alone_l40 p1 p2  n A0 f0 l3 l4 l5 = some res → ∀ (H : Heap) (locs : List Loc) (ls : Array Slot), WD G DA (wX10 G h0 a0 f0 A0) H → va_S DA s.heap H locs → lv_has ls 6 [(0, .ref h0), (1, .int p1), (2, .int p2), (3, .int l3), (4, .int l4), (5, .int l5)] → W p l e rmX10_alone s m args below meth c H locs 0 0 (MQ below (QI G DA res.1 (wX10 G h0 a0 res.2.2 res.2.1)) args s 0 0 DA) (F0 m 40 ls []) := by
  intro n
  induction n with
  | zero => intro A0 f0 l3 l4 l5 h; cases h
  | succ n ih => intro A0 f0 l3 l4 l5 h; exact ww_f10_alone_b40 C0  ih A0 f0 l3 l4 l5 h
set_option maxRecDepth 100000 in
set_option maxHeartbeats 4000000 in
theorem kt_X10_alone (l : Launch) (G : Gp) (h0 : Nat) (a0 : Nat → Nat) (f0 : Nat → Int32) (A0 : Nat → Nat → Int32) (p1 : Int32) (p2 : Int32) : ∀ {r : Int32 × (Nat → Nat → Int32) × (Nat → Int32)}, f10_alone f0 A0 p1 p2 = some r → CtrI l yX10_alone cX10_alone 6 (some .int) rmX10_alone G [.ref h0, .int p1, .int p2] (wX10 G h0 a0 f0 A0) r.1 (wX10 G h0 a0 r.2.2 r.2.1) := by
  intro res h
  refine ctrI_of (cc := cX10_alone) (maxL := 6) (ret := (some .int)) (by decide +kernel) rfl (Nat.le_of_ble_eq_true rfl) (fun p e s m below meth c DA C0 hP hD ls hl => ?_)
  have hPD : WD G DA (wX10 G h0 a0 f0 A0) s.heap := ⟨hP, hD⟩
  have hS : va_S DA s.heap s.heap [] := va_S.rf
  have hl : lv_has ls 6 [(0, .ref h0), (1, .int p1), (2, .int p2)] := hl
  obtain ⟨hx, hb, hml, hown, hts⟩ := C0.1
  have hK := C0.2.2.2.1
  unfold f10_alone at h
  refine lv_aload_n hx hb dX10_alone_0 rfl (lv_at hl 0 rfl) ?_
  refine lv_iload_n hx hb dX10_alone_1 rfl (lv_at hl 1 rfl) ?_
  refine kVI (As := [.int p1]) (rest := []) C0 (kt_X10_isTold l G h0 a0 f0 A0 p1) gi_V_X10_128_X10_isTold (n := 1) rfl (by decide +kernel) rfl ⟨rfl, rfl, Nat.le_of_ble_eq_true rfl, Nat.le_of_ble_eq_true rfl⟩ hPD hS 0 10 rfl rfl rfl [0, 1, 2, 3, 4, 5, 6, 7, 8, 9, 10, 11, 12, 13, 14, 15, 16, 17, 18, 19, 20, 21, 22, 23, 24, 25, 26, 27, 28, 29, 30, 31, 32, 33] [] [0, 1, 2, 3, 4, 5, 6, 7, 8, 9, 10, 11, 12, 13, 14, 15, 16, 17, 18, 19, 20, 21, 22, 23, 24, 25, 26, 27, 28, 29, 30, 31, 32, 33] (wN := (wX10 G h0 a0 f0 A0)) rfl rfl rfl rfl rfl hl.1 (Nat.le_of_ble_eq_true rfl) dX10_alone_2 (fun H locs hPD hS => ?_)
  refine lv_if_eq (tgt := 19) hx hb dX10_alone_5 (by decide) (fun cc1 => ?_) (fun cc1 => ?_)
  · have h := (if_pos cc1).symm.trans h
    refine lv_iconst (v := (-1)) hx hb dX10_alone_19 (by decide) ?_
    obtain rfl := Option.some.inj h
    exact eI C0 hPD.1 hPD.2 hS rfl dX10_alone_20
  · have h := (if_neg cc1).symm.trans h
    refine lv_iload_n hx hb dX10_alone_8 rfl (lv_at hl 2 rfl) ?_
    refine lv_iconst (v := 1) hx hb dX10_alone_9 (by decide) ?_
    refine lv_sipush (v := 240) hx hb dX10_alone_10 (by decide) ?_
    refine kSI (As := [.int p2, .int 1, .int 240]) (rest := []) C0 (kt_X10_in l G  p2 1 240) gi_S_X10_112_X10_in (n := 3) rfl (by decide +kernel) ⟨rfl, rfl, Nat.le_of_ble_eq_true rfl, Nat.le_of_ble_eq_true rfl⟩ hPD hS [] [0, 1, 2, 3, 4, 5, 6, 7, 8, 9, 10, 11, 12, 13, 14, 15, 16, 17, 18, 19, 20, 21, 22, 23, 24, 25, 26, 27, 28, 29, 30, 31, 32, 33] [0, 1, 2, 3, 4, 5, 6, 7, 8, 9, 10, 11, 12, 13, 14, 15, 16, 17, 18, 19, 20, 21, 22, 23, 24, 25, 26, 27, 28, 29, 30, 31, 32, 33] (wN := (wX10 G h0 a0 f0 A0)) rfl rfl rfl rfl rfl hl.1 (Nat.le_of_ble_eq_true rfl) dX10_alone_13 (fun H locs hPD hS => ?_)
    refine lv_if_ne (tgt := 21) hx hb dX10_alone_16 (by decide) (fun cc1 => ?_) (fun cc1 => ?_)
    · have h := (if_neg cc1).symm.trans h
      refine lv_aload_n hx hb dX10_alone_21 rfl (lv_at hl 0 rfl) ?_
      refine va_get (D := G.1) (ci := 10) (v := .ref (a0 0)) (C := RX10) (T := TX10) (N := 52) hx hb hts inlX10 hown hK hPD.1 0 rfl rfl 0 (by decide) (hts _ gw_539) (fun _ h9 => h9) rfl dX10_alone_22 ?_
      refine lv_aload_n hx hb dX10_alone_25 rfl (lv_at hl 0 rfl) ?_
      refine va_get (D := G.1) (ci := 10) (v := .ref (a0 1)) (C := RX10) (T := TX10) (N := 52) hx hb hts inlX10 hown hK hPD.1 0 rfl rfl 1 (by decide) (hts _ gw_719) (fun _ h9 => h9) rfl dX10_alone_26 ?_
      obtain ⟨q_1, hq_1, h⟩ := ob2 h
      refine kSV (As := [.ref (a0 0), .ref (a0 1)]) (rest := []) C0 (kt_X10_copies l G (a0 0) (a0 1) 76 (A0 0) 76 (A0 1) (by decide) (by decide) hq_1) gi_S_X10_290_X10_copies (n := 2) rfl (by decide +kernel) ⟨rfl, rfl, Nat.le_of_ble_eq_true rfl, Nat.le_of_ble_eq_true rfl⟩ hPD hS [1, 2] [0, 3, 4, 5, 6, 7, 8, 9, 10, 11, 12, 13, 14, 15, 16, 17, 18, 19, 20, 21, 22, 23, 24, 25, 26, 27, 28, 29, 30, 31, 32, 33] [0, 32, 33, 1, 2, 3, 4, 5, 6, 7, 8, 9, 10, 11, 12, 13, 14, 15, 16, 17, 18, 19, 20, 21, 22, 23, 24, 25, 26, 27, 28, 29, 30, 31] (wN := (wX10 G h0 a0 f0 (updA A0 1 q_1))) rfl rfl rfl rfl rfl hl.1 (Nat.le_of_ble_eq_true rfl) dX10_alone_29 (fun H locs hPD hS => ?_)
      obtain ⟨A0_2, eA0_2, h⟩ := lvl h
      have hPD : WD G DA (wX10 G h0 a0 f0 A0_2) H := by rw [eA0_2]; exact hPD
      clear eA0_2
      refine lv_iconst (v := 0) hx hb dX10_alone_32 (by decide) ?_
      refine lv_istore_n (lv' := [(3, .int 0), (0, .ref h0), (1, .int p1), (2, .int p2)]) hx hb dX10_alone_33 rfl hl (by decide) rfl (fun ls hl => ?_)
      refine lv_iconst (v := 0) hx hb dX10_alone_34 (by decide) ?_
      refine lv_istore (lv' := [(4, .int 0), (3, .int 0), (0, .ref h0), (1, .int p1), (2, .int p2)]) hx hb dX10_alone_35 hl (by decide) rfl (fun ls hl => ?_)
      refine lv_iconst (v := 0) hx hb dX10_alone_37 (by decide) ?_
      refine lv_istore (lv' := [(5, .int 0), (4, .int 0), (3, .int 0), (0, .ref h0), (1, .int p1), (2, .int p2)]) hx hb dX10_alone_38 hl (by decide) rfl (fun ls hl => ?_)
      exact ww_f10_alone_l40 C0 NF A0_2 f0 0 0 0 h _ _ _ hPD hS (lv_sub hl [3, 4, 5, 2, 1, 0] rfl)
    · have h := (if_pos cc1).symm.trans h
      refine lv_iconst (v := (-1)) hx hb dX10_alone_19 (by decide) ?_
      obtain rfl := Option.some.inj h
      exact eI C0 hPD.1 hPD.2 hS rfl dX10_alone_20
abbrev rmX10_together : Room := { frames := 8, cells := 0, slots := 0, locals := 177 }
set_option maxRecDepth 100000 in
set_option maxHeartbeats 4000000 in
theorem ww_f10_together_b127  (C0 : Cx cX10_together 6 (some .int) RX10 p s m args meth c G DA) {h0 : Nat} {a0 : Nat → Nat} {p1 : Int32} {p2 : Int32} {p3 : Int32}   {res : Int32 × (Nat → Nat → Int32) × (Nat → Int32)}  : ∀ (A0 : Nat → Nat → Int32) (f0 : Nat → Int32) (l4 : Int32) (s0 : Int32), f10_together_b127 p1 p2 p3  A0 f0 l4 s0 = some res → ∀ (H : Heap) (locs : List Loc) (ls : Array Slot), WD G DA (wX10 G h0 a0 f0 A0) H → va_S DA s.heap H locs → lv_has ls 6 [(0, .ref h0), (1, .int p1), (2, .int p2), (3, .int p3), (4, .int l4)] → W p l e rmX10_together s m args below meth c H locs 0 0 (MQ below (QI G DA res.1 (wX10 G h0 a0 res.2.2 res.2.1)) args s 0 0 DA) (F0 m 127 ls [.int s0]) := by
  obtain ⟨hx, hb, hml, hown, hts⟩ := C0.1
  have hK := C0.2.2.2.1
  intro A0 f0 l4 s0 h _ _ _ hPD hS hl
  unfold f10_together_b127 at h
  refine lv_istore (lv' := [(5, .int s0), (0, .ref h0), (1, .int p1), (2, .int p2), (3, .int p3), (4, .int l4)]) hx hb dX10_together_127 hl (by decide) rfl (fun ls hl => ?_)
  refine lv_aload_n hx hb dX10_together_129 rfl (lv_at hl 1 rfl) ?_
  refine va_get (D := G.1) (ci := 10) (v := .ref (a0 1)) (C := RX10) (T := TX10) (N := 52) hx hb hts inlX10 hown hK hPD.1 0 rfl rfl 1 (by decide) (hts _ gw_719) (fun _ h9 => h9) rfl dX10_together_130 ?_
  refine lv_aload_n hx hb dX10_together_133 rfl (lv_at hl 1 rfl) ?_
  refine va_get (D := G.1) (ci := 10) (v := .ref (a0 0)) (C := RX10) (T := TX10) (N := 52) hx hb hts inlX10 hown hK hPD.1 0 rfl rfl 0 (by decide) (hts _ gw_539) (fun _ h9 => h9) rfl dX10_together_134 ?_
  obtain ⟨q_9, hq_9, h⟩ := ob2 h
  refine kSV (As := [.ref (a0 1), .ref (a0 0)]) (rest := []) C0 (kt_X10_copies l G (a0 1) (a0 0) 76 (A0 1) 76 (A0 0) (by decide) (by decide) hq_9) gi_S_X10_290_X10_copies (n := 2) rfl (by decide +kernel) ⟨rfl, rfl, Nat.le_of_ble_eq_true rfl, Nat.le_of_ble_eq_true rfl⟩ hPD hS [2, 1] [0, 3, 4, 5, 6, 7, 8, 9, 10, 11, 12, 13, 14, 15, 16, 17, 18, 19, 20, 21, 22, 23, 24, 25, 26, 27, 28, 29, 30, 31, 32, 33] [0, 33, 32, 1, 2, 3, 4, 5, 6, 7, 8, 9, 10, 11, 12, 13, 14, 15, 16, 17, 18, 19, 20, 21, 22, 23, 24, 25, 26, 27, 28, 29, 30, 31] (wN := (wX10 G h0 a0 f0 (updA A0 0 q_9))) rfl rfl rfl rfl rfl hl.1 (Nat.le_of_ble_eq_true rfl) dX10_together_137 (fun H locs hPD hS => ?_)
  obtain ⟨A0_10, eA0_10, h⟩ := lvl h
  have hPD : WD G DA (wX10 G h0 a0 f0 A0_10) H := by rw [eA0_10]; exact hPD
  clear eA0_10
  refine lv_iload hx hb dX10_together_140 (lv_at hl 0 rfl) ?_
  refine lv_if_eq (tgt := 150) hx hb dX10_together_142 (by decide) (fun cc1 => ?_) (fun cc1 => ?_)
  · have h := (if_pos cc1).symm.trans h
    refine lv_bipush (v := (-2)) hx hb dX10_together_150 (by decide) ?_
    obtain rfl := Option.some.inj h
    exact eI C0 hPD.1 hPD.2 hS rfl dX10_together_152
  · have h := (if_neg cc1).symm.trans h
    refine lv_iload hx hb dX10_together_145 (lv_at hl 5 rfl) ?_
    refine lv_goto (tgt := 152) hx hb dX10_together_147 (by decide) ?_
    obtain rfl := Option.some.inj h
    exact eI C0 hPD.1 hPD.2 hS rfl dX10_together_152
set_option maxRecDepth 100000 in
set_option maxHeartbeats 4000000 in
theorem ww_f10_together_b101  (C0 : Cx cX10_together 6 (some .int) RX10 p s m args meth c G DA) {h0 : Nat} {a0 : Nat → Nat} {p1 : Int32} {p2 : Int32} {p3 : Int32}   {res : Int32 × (Nat → Nat → Int32) × (Nat → Int32)}  : ∀ (A0 : Nat → Nat → Int32) (f0 : Nat → Int32) (l4 : Int32), f10_together_b101 p1 p2 p3  A0 f0 l4 = some res → ∀ (H : Heap) (locs : List Loc) (ls : Array Slot), WD G DA (wX10 G h0 a0 f0 A0) H → va_S DA s.heap H locs → lv_has ls 6 [(0, .ref h0), (1, .int p1), (2, .int p2), (3, .int p3), (4, .int l4)] → W p l e rmX10_together s m args below meth c H locs 0 0 (MQ below (QI G DA res.1 (wX10 G h0 a0 res.2.2 res.2.1)) args s 0 0 DA) (F0 m 101 ls []) := by
  obtain ⟨hx, hb, hml, hown, hts⟩ := C0.1
  have hK := C0.2.2.2.1
  intro A0 f0 l4 h _ _ _ hPD hS hl
  unfold f10_together_b101 at h
  refine lv_aload_n hx hb dX10_together_101 rfl (lv_at hl 0 rfl) ?_
  refine va_get (D := G.1) (ci := 10) (v := .ref (a0 0)) (C := RX10) (T := TX10) (N := 52) hx hb hts inlX10 hown hK hPD.1 0 rfl rfl 0 (by decide) (hts _ gw_539) (fun _ h9 => h9) rfl dX10_together_102 ?_
  refine lv_bipush (v := 56) hx hb dX10_together_105 (by decide) ?_
  refine lv_iload_n hx hb dX10_together_107 rfl (lv_at hl 1 rfl) ?_
  refine lv_iadd hx hb dX10_together_108 ?_
  obtain ⟨hi_7, h⟩ := ob h
  refine va_iald hx hb hK hPD.1 1 1 rfl rfl hi_7 dX10_together_109 ?_
  refine lv_aload_n hx hb dX10_together_110 rfl (lv_at hl 0 rfl) ?_
  refine va_get (D := G.1) (ci := 10) (v := .ref (a0 0)) (C := RX10) (T := TX10) (N := 52) hx hb hts inlX10 hown hK hPD.1 0 rfl rfl 0 (by decide) (hts _ gw_539) (fun _ h9 => h9) rfl dX10_together_111 ?_
  refine lv_bipush (v := 56) hx hb dX10_together_114 (by decide) ?_
  refine lv_iload_n hx hb dX10_together_116 rfl (lv_at hl 2 rfl) ?_
  refine lv_iadd hx hb dX10_together_117 ?_
  obtain ⟨hi_8, h⟩ := ob h
  refine va_iald hx hb hK hPD.1 1 1 rfl rfl hi_8 dX10_together_118 ?_
  refine lv_icmp_ne (tgt := 126) hx hb dX10_together_119 (by decide) (fun cc1 => ?_) (fun cc1 => ?_)
  · have h := (if_neg cc1).symm.trans h
    refine lv_iconst (v := 0) hx hb dX10_together_126 (by decide) ?_
    exact ww_f10_together_b127 C0 A0 f0 l4 0 h _ _ _ hPD hS (lv_sub hl [0, 1, 2, 3, 4] rfl)
  · have h := (if_pos cc1).symm.trans h
    refine lv_iconst (v := 1) hx hb dX10_together_122 (by decide) ?_
    refine lv_goto (tgt := 127) hx hb dX10_together_123 (by decide) ?_
    exact ww_f10_together_b127 C0 A0 f0 l4 1 h _ _ _ hPD hS (lv_sub hl [0, 1, 2, 3, 4] rfl)
set_option maxRecDepth 100000 in
set_option maxHeartbeats 4000000 in
theorem ww_f10_together_b48  (C0 : Cx cX10_together 6 (some .int) RX10 p s m args meth c G DA) {h0 : Nat} {a0 : Nat → Nat} {p1 : Int32} {p2 : Int32} {p3 : Int32}  {k48 : (Nat → Nat → Int32) → (Nat → Int32) → Int32 → Option (Int32 × (Nat → Nat → Int32) × (Nat → Int32))} {res : Int32 × (Nat → Nat → Int32) × (Nat → Int32)}  (hk48 : ∀ (A0 : Nat → Nat → Int32) (f0 : Nat → Int32) (l4 : Int32), k48 A0 f0 l4 = some res → ∀ (H : Heap) (locs : List Loc) (ls : Array Slot), WD G DA (wX10 G h0 a0 f0 A0) H → va_S DA s.heap H locs → lv_has ls 6 [(0, .ref h0), (1, .int p1), (2, .int p2), (3, .int p3), (4, .int l4)] → W p l e rmX10_together s m args below meth c H locs 0 0 (MQ below (QI G DA res.1 (wX10 G h0 a0 res.2.2 res.2.1)) args s 0 0 DA) (F0 m 48 ls [])) : ∀ (A0 : Nat → Nat → Int32) (f0 : Nat → Int32) (l4 : Int32), f10_together_b48 p1 p2 p3  k48 A0 f0 l4 = some res → ∀ (H : Heap) (locs : List Loc) (ls : Array Slot), WD G DA (wX10 G h0 a0 f0 A0) H → va_S DA s.heap H locs → lv_has ls 6 [(0, .ref h0), (1, .int p1), (2, .int p2), (3, .int p3), (4, .int l4)] → W p l e rmX10_together s m args below meth c H locs 0 0 (MQ below (QI G DA res.1 (wX10 G h0 a0 res.2.2 res.2.1)) args s 0 0 DA) (F0 m 48 ls []) := by
  obtain ⟨hx, hb, hml, hown, hts⟩ := C0.1
  have hK := C0.2.2.2.1
  intro A0 f0 l4 h _ _ _ hPD hS hl
  unfold f10_together_b48 at h
  refine lv_aload_n hx hb dX10_together_48 rfl (lv_at hl 0 rfl) ?_
  refine va_get (D := G.1) (ci := 10) (v := .ref (a0 0)) (C := RX10) (T := TX10) (N := 52) hx hb hts inlX10 hown hK hPD.1 0 rfl rfl 0 (by decide) (hts _ gw_539) (fun _ h9 => h9) rfl dX10_together_49 ?_
  refine lv_bipush (v := 56) hx hb dX10_together_52 (by decide) ?_
  refine lv_iload_n hx hb dX10_together_54 rfl (lv_at hl 1 rfl) ?_
  refine lv_iadd hx hb dX10_together_55 ?_
  obtain ⟨hi_5, h⟩ := ob h
  refine va_iald hx hb hK hPD.1 1 1 rfl rfl hi_5 dX10_together_56 ?_
  refine lv_aload_n hx hb dX10_together_57 rfl (lv_at hl 0 rfl) ?_
  refine va_get (D := G.1) (ci := 10) (v := .ref (a0 0)) (C := RX10) (T := TX10) (N := 52) hx hb hts inlX10 hown hK hPD.1 0 rfl rfl 0 (by decide) (hts _ gw_539) (fun _ h9 => h9) rfl dX10_together_58 ?_
  refine lv_bipush (v := 56) hx hb dX10_together_61 (by decide) ?_
  refine lv_iload_n hx hb dX10_together_63 rfl (lv_at hl 2 rfl) ?_
  refine lv_iadd hx hb dX10_together_64 ?_
  obtain ⟨hi_6, h⟩ := ob h
  refine va_iald hx hb hK hPD.1 1 1 rfl rfl hi_6 dX10_together_65 ?_
  refine lv_icmp_eq (tgt := 101) hx hb dX10_together_66 (by decide) (fun cc1 => ?_) (fun cc1 => ?_)
  · have h := (if_pos cc1).symm.trans h
    exact ww_f10_together_b101 C0 A0 f0 l4 h _ _ _ hPD hS (lv_sub hl [0, 1, 2, 3, 4] rfl)
  · have h := (if_neg cc1).symm.trans h
    refine lv_iload hx hb dX10_together_69 (lv_at hl 4 rfl) ?_
    refine lv_iload_n hx hb dX10_together_71 rfl (lv_at hl 3 rfl) ?_
    refine lv_icmp_ge (tgt := 101) hx hb dX10_together_72 (by decide) (fun cc1 => ?_) (fun cc1 => ?_)
    · have h := (if_pos cc1).symm.trans h
      exact ww_f10_together_b101 C0 A0 f0 l4 h _ _ _ hPD hS (lv_sub hl [0, 1, 2, 3, 4] rfl)
    · have h := (if_neg cc1).symm.trans h
      refine lv_aload_n hx hb dX10_together_75 rfl (lv_at hl 0 rfl) ?_
      refine va_get (D := G.1) (ci := 10) (v := .ref (a0 0)) (C := RX10) (T := TX10) (N := 52) hx hb hts inlX10 hown hK hPD.1 0 rfl rfl 0 (by decide) (hts _ gw_539) (fun _ h9 => h9) rfl dX10_together_76 ?_
      refine lv_bipush (v := 74) hx hb dX10_together_79 (by decide) ?_
      refine va_iald hx hb hK hPD.1 1 1 rfl rfl (vin rfl) dX10_together_81 ?_
      refine lv_sipush (v := 9999) hx hb dX10_together_82 (by decide) ?_
      refine lv_icmp_ge (tgt := 101) hx hb dX10_together_85 (by decide) (fun cc1 => ?_) (fun cc1 => ?_)
      · have h := (if_pos cc1).symm.trans h
        exact ww_f10_together_b101 C0 A0 f0 l4 h _ _ _ hPD hS (lv_sub hl [0, 1, 2, 3, 4] rfl)
      · have h := (if_neg cc1).symm.trans h
        refine lv_aload_n hx hb dX10_together_88 rfl (lv_at hl 0 rfl) ?_
        obtain ⟨q_11, hq_11, h⟩ := ob2 h
        refine kVV (As := []) (rest := []) C0 (kt_X10_hourGoes l G h0 a0 f0 A0 hq_11) gi_V_X10_323_X10_hourGoes (n := 0) rfl (by decide +kernel) rfl ⟨rfl, rfl, Nat.le_of_ble_eq_true rfl, Nat.le_of_ble_eq_true rfl⟩ hPD hS 0 10 rfl rfl rfl [0, 1, 2, 3, 4, 5, 6, 7, 8, 9, 10, 11, 12, 13, 14, 15, 16, 17, 18, 19, 20, 21, 22, 23, 24, 25, 26, 27, 28, 29, 30, 31, 32, 33] [] [0, 1, 2, 3, 4, 5, 6, 7, 8, 9, 10, 11, 12, 13, 14, 15, 16, 17, 18, 19, 20, 21, 22, 23, 24, 25, 26, 27, 28, 29, 30, 31, 32, 33] (wN := (wX10 G h0 a0 q_11.2 q_11.1)) rfl rfl rfl rfl rfl hl.1 (Nat.le_of_ble_eq_true rfl) dX10_together_89 (fun H locs hPD hS => ?_)
        refine lv_iload hx hb dX10_together_92 (lv_at hl 4 rfl) ?_
        refine lv_iconst (v := 1) hx hb dX10_together_94 (by decide) ?_
        refine lv_iadd hx hb dX10_together_95 ?_
        refine lv_istore (lv' := [(4, .int (l4 + 1)), (0, .ref h0), (1, .int p1), (2, .int p2), (3, .int p3)]) hx hb dX10_together_96 hl (by decide) rfl (fun ls hl => ?_)
        refine lv_goto (tgt := 48) hx hb dX10_together_98 (by decide) ?_
        exact hk48 q_11.1 q_11.2 (l4 + 1) h _ _ _ hPD hS (lv_sub hl [1, 2, 3, 4, 0] rfl)
set_option maxRecDepth 100000 in
set_option maxHeartbeats 4000000 in
theorem ww_f10_together_l48  (C0 : Cx cX10_together 6 (some .int) RX10 p s m args meth c G DA) {h0 : Nat} {a0 : Nat → Nat} {p1 : Int32} {p2 : Int32} {p3 : Int32}   {res : Int32 × (Nat → Nat → Int32) × (Nat → Int32)}  : ∀ (n : Nat) (A0 : Nat → Nat → Int32) (f0 : Nat → Int32) (l4 : Int32), f10_together_l48 p1 p2 p3  n A0 f0 l4 = some res → ∀ (H : Heap) (locs : List Loc) (ls : Array Slot), WD G DA (wX10 G h0 a0 f0 A0) H → va_S DA s.heap H locs → lv_has ls 6 [(0, .ref h0), (1, .int p1), (2, .int p2), (3, .int p3), (4, .int l4)] → W p l e rmX10_together s m args below meth c H locs 0 0 (MQ below (QI G DA res.1 (wX10 G h0 a0 res.2.2 res.2.1)) args s 0 0 DA) (F0 m 48 ls []) := by
  intro n
  induction n with
  | zero => intro A0 f0 l4 h; cases h
  | succ n ih => intro A0 f0 l4 h; exact ww_f10_together_b48 C0  ih A0 f0 l4 h
set_option maxRecDepth 100000 in
set_option maxHeartbeats 4000000 in
theorem kt_X10_together (l : Launch) (G : Gp) (h0 : Nat) (a0 : Nat → Nat) (f0 : Nat → Int32) (A0 : Nat → Nat → Int32) (p1 : Int32) (p2 : Int32) (p3 : Int32) : ∀ {r : Int32 × (Nat → Nat → Int32) × (Nat → Int32)}, f10_together f0 A0 p1 p2 p3 = some r → CtrI l yX10_together cX10_together 6 (some .int) rmX10_together G [.ref h0, .int p1, .int p2, .int p3] (wX10 G h0 a0 f0 A0) r.1 (wX10 G h0 a0 r.2.2 r.2.1) := by
  intro res h
  refine ctrI_of (cc := cX10_together) (maxL := 6) (ret := (some .int)) (by decide +kernel) rfl (Nat.le_of_ble_eq_true rfl) (fun p e s m below meth c DA C0 hP hD ls hl => ?_)
  have hPD : WD G DA (wX10 G h0 a0 f0 A0) s.heap := ⟨hP, hD⟩
  have hS : va_S DA s.heap s.heap [] := va_S.rf
  have hl : lv_has ls 6 [(0, .ref h0), (1, .int p1), (2, .int p2), (3, .int p3)] := hl
  obtain ⟨hx, hb, hml, hown, hts⟩ := C0.1
  have hK := C0.2.2.2.1
  unfold f10_together at h
  refine lv_aload_n hx hb dX10_together_0 rfl (lv_at hl 0 rfl) ?_
  refine lv_iload_n hx hb dX10_together_1 rfl (lv_at hl 1 rfl) ?_
  obtain ⟨q_1, hq_1, h⟩ := ob2 h
  refine kVI (As := [.int p1]) (rest := []) C0 (kt_X10_isMan l G h0 a0 f0 A0 p1 hq_1) gi_V_X10_124_X10_isMan (n := 1) rfl (by decide +kernel) rfl ⟨rfl, rfl, Nat.le_of_ble_eq_true rfl, Nat.le_of_ble_eq_true rfl⟩ hPD hS 0 10 rfl rfl rfl [0, 1, 2, 3, 4, 5, 6, 7, 8, 9, 10, 11, 12, 13, 14, 15, 16, 17, 18, 19, 20, 21, 22, 23, 24, 25, 26, 27, 28, 29, 30, 31, 32, 33] [] [0, 1, 2, 3, 4, 5, 6, 7, 8, 9, 10, 11, 12, 13, 14, 15, 16, 17, 18, 19, 20, 21, 22, 23, 24, 25, 26, 27, 28, 29, 30, 31, 32, 33] (wN := (wX10 G h0 a0 f0 A0)) rfl rfl rfl rfl rfl hl.1 (Nat.le_of_ble_eq_true rfl) dX10_together_2 (fun H locs hPD hS => ?_)
  refine lv_if_eq (tgt := 32) hx hb dX10_together_5 (by decide) (fun cc1 => ?_) (fun cc1 => ?_)
  · have h := (if_pos cc1).symm.trans h
    refine lv_iconst (v := (-1)) hx hb dX10_together_32 (by decide) ?_
    obtain rfl := Option.some.inj h
    exact eI C0 hPD.1 hPD.2 hS rfl dX10_together_33
  · have h := (if_neg cc1).symm.trans h
    refine lv_aload_n hx hb dX10_together_8 rfl (lv_at hl 0 rfl) ?_
    refine lv_iload_n hx hb dX10_together_9 rfl (lv_at hl 2 rfl) ?_
    obtain ⟨q_2, hq_2, h⟩ := ob2 h
    refine kVI (As := [.int p2]) (rest := []) C0 (kt_X10_isMan l G h0 a0 f0 A0 p2 hq_2) gi_V_X10_124_X10_isMan (n := 1) rfl (by decide +kernel) rfl ⟨rfl, rfl, Nat.le_of_ble_eq_true rfl, Nat.le_of_ble_eq_true rfl⟩ hPD hS 0 10 rfl rfl rfl [0, 1, 2, 3, 4, 5, 6, 7, 8, 9, 10, 11, 12, 13, 14, 15, 16, 17, 18, 19, 20, 21, 22, 23, 24, 25, 26, 27, 28, 29, 30, 31, 32, 33] [] [0, 1, 2, 3, 4, 5, 6, 7, 8, 9, 10, 11, 12, 13, 14, 15, 16, 17, 18, 19, 20, 21, 22, 23, 24, 25, 26, 27, 28, 29, 30, 31, 32, 33] (wN := (wX10 G h0 a0 f0 A0)) rfl rfl rfl rfl rfl hl.1 (Nat.le_of_ble_eq_true rfl) dX10_together_10 (fun H locs hPD hS => ?_)
    refine lv_if_eq (tgt := 32) hx hb dX10_together_13 (by decide) (fun cc1 => ?_) (fun cc1 => ?_)
    · have h := (if_pos cc1).symm.trans h
      refine lv_iconst (v := (-1)) hx hb dX10_together_32 (by decide) ?_
      obtain rfl := Option.some.inj h
      exact eI C0 hPD.1 hPD.2 hS rfl dX10_together_33
    · have h := (if_neg cc1).symm.trans h
      refine lv_iload_n hx hb dX10_together_16 rfl (lv_at hl 1 rfl) ?_
      refine lv_iload_n hx hb dX10_together_17 rfl (lv_at hl 2 rfl) ?_
      refine lv_icmp_eq (tgt := 32) hx hb dX10_together_18 (by decide) (fun cc1 => ?_) (fun cc1 => ?_)
      · have h := (if_pos cc1).symm.trans h
        refine lv_iconst (v := (-1)) hx hb dX10_together_32 (by decide) ?_
        obtain rfl := Option.some.inj h
        exact eI C0 hPD.1 hPD.2 hS rfl dX10_together_33
      · have h := (if_neg cc1).symm.trans h
        refine lv_iload_n hx hb dX10_together_21 rfl (lv_at hl 3 rfl) ?_
        refine lv_iconst (v := 1) hx hb dX10_together_22 (by decide) ?_
        refine lv_sipush (v := 240) hx hb dX10_together_23 (by decide) ?_
        refine kSI (As := [.int p3, .int 1, .int 240]) (rest := []) C0 (kt_X10_in l G  p3 1 240) gi_S_X10_112_X10_in (n := 3) rfl (by decide +kernel) ⟨rfl, rfl, Nat.le_of_ble_eq_true rfl, Nat.le_of_ble_eq_true rfl⟩ hPD hS [] [0, 1, 2, 3, 4, 5, 6, 7, 8, 9, 10, 11, 12, 13, 14, 15, 16, 17, 18, 19, 20, 21, 22, 23, 24, 25, 26, 27, 28, 29, 30, 31, 32, 33] [0, 1, 2, 3, 4, 5, 6, 7, 8, 9, 10, 11, 12, 13, 14, 15, 16, 17, 18, 19, 20, 21, 22, 23, 24, 25, 26, 27, 28, 29, 30, 31, 32, 33] (wN := (wX10 G h0 a0 f0 A0)) rfl rfl rfl rfl rfl hl.1 (Nat.le_of_ble_eq_true rfl) dX10_together_26 (fun H locs hPD hS => ?_)
        refine lv_if_ne (tgt := 34) hx hb dX10_together_29 (by decide) (fun cc1 => ?_) (fun cc1 => ?_)
        · have h := (if_neg cc1).symm.trans h
          refine lv_aload_n hx hb dX10_together_34 rfl (lv_at hl 0 rfl) ?_
          refine va_get (D := G.1) (ci := 10) (v := .ref (a0 0)) (C := RX10) (T := TX10) (N := 52) hx hb hts inlX10 hown hK hPD.1 0 rfl rfl 0 (by decide) (hts _ gw_539) (fun _ h9 => h9) rfl dX10_together_35 ?_
          refine lv_aload_n hx hb dX10_together_38 rfl (lv_at hl 0 rfl) ?_
          refine va_get (D := G.1) (ci := 10) (v := .ref (a0 1)) (C := RX10) (T := TX10) (N := 52) hx hb hts inlX10 hown hK hPD.1 0 rfl rfl 1 (by decide) (hts _ gw_719) (fun _ h9 => h9) rfl dX10_together_39 ?_
          obtain ⟨q_3, hq_3, h⟩ := ob2 h
          refine kSV (As := [.ref (a0 0), .ref (a0 1)]) (rest := []) C0 (kt_X10_copies l G (a0 0) (a0 1) 76 (A0 0) 76 (A0 1) (by decide) (by decide) hq_3) gi_S_X10_290_X10_copies (n := 2) rfl (by decide +kernel) ⟨rfl, rfl, Nat.le_of_ble_eq_true rfl, Nat.le_of_ble_eq_true rfl⟩ hPD hS [1, 2] [0, 3, 4, 5, 6, 7, 8, 9, 10, 11, 12, 13, 14, 15, 16, 17, 18, 19, 20, 21, 22, 23, 24, 25, 26, 27, 28, 29, 30, 31, 32, 33] [0, 32, 33, 1, 2, 3, 4, 5, 6, 7, 8, 9, 10, 11, 12, 13, 14, 15, 16, 17, 18, 19, 20, 21, 22, 23, 24, 25, 26, 27, 28, 29, 30, 31] (wN := (wX10 G h0 a0 f0 (updA A0 1 q_3))) rfl rfl rfl rfl rfl hl.1 (Nat.le_of_ble_eq_true rfl) dX10_together_42 (fun H locs hPD hS => ?_)
          obtain ⟨A0_4, eA0_4, h⟩ := lvl h
          have hPD : WD G DA (wX10 G h0 a0 f0 A0_4) H := by rw [eA0_4]; exact hPD
          clear eA0_4
          refine lv_iconst (v := 0) hx hb dX10_together_45 (by decide) ?_
          refine lv_istore (lv' := [(4, .int 0), (0, .ref h0), (1, .int p1), (2, .int p2), (3, .int p3)]) hx hb dX10_together_46 hl (by decide) rfl (fun ls hl => ?_)
          exact ww_f10_together_l48 C0 NF A0_4 f0 0 h _ _ _ hPD hS (lv_sub hl [1, 2, 3, 4, 0] rfl)
        · have h := (if_pos cc1).symm.trans h
          refine lv_iconst (v := (-1)) hx hb dX10_together_32 (by decide) ?_
          obtain rfl := Option.some.inj h
          exact eI C0 hPD.1 hPD.2 hS rfl dX10_together_33
abbrev rmX10_seen : Room := { frames := 8, cells := 0, slots := 0, locals := 177 }
set_option maxRecDepth 100000 in
set_option maxHeartbeats 4000000 in
theorem ww_f10_seen_b63  (C0 : Cx cX10_seen 4 (some .int) RX10 p s m args meth c G DA) {h0 : Nat} {a0 : Nat → Nat} {p1 : Int32}   {res : Int32 × (Nat → Nat → Int32) × (Nat → Int32)}  : ∀ (A0 : Nat → Nat → Int32) (f0 : Nat → Int32) (l2 : Int32), f10_seen_b63 p1  A0 f0 l2 = some res → ∀ (H : Heap) (locs : List Loc) (ls : Array Slot), WD G DA (wX10 G h0 a0 f0 A0) H → va_S DA s.heap H locs → lv_has ls 4 [(0, .ref h0), (1, .int p1), (2, .int l2)] → W p l e rmX10_seen s m args below meth c H locs 0 0 (MQ below (QI G DA res.1 (wX10 G h0 a0 res.2.2 res.2.1)) args s 0 0 DA) (F0 m 63 ls []) := by
  obtain ⟨hx, hb, hml, hown, hts⟩ := C0.1
  have hK := C0.2.2.2.1
  intro A0 f0 l2 h _ _ _ hPD hS hl
  unfold f10_seen_b63 at h
  refine lv_aload_n hx hb dX10_seen_63 rfl (lv_at hl 0 rfl) ?_
  refine va_get (D := G.1) (ci := 10) (v := .ref (a0 1)) (C := RX10) (T := TX10) (N := 52) hx hb hts inlX10 hown hK hPD.1 0 rfl rfl 1 (by decide) (hts _ gw_719) (fun _ h9 => h9) rfl dX10_seen_64 ?_
  refine lv_aload_n hx hb dX10_seen_67 rfl (lv_at hl 0 rfl) ?_
  refine va_get (D := G.1) (ci := 10) (v := .ref (a0 0)) (C := RX10) (T := TX10) (N := 52) hx hb hts inlX10 hown hK hPD.1 0 rfl rfl 0 (by decide) (hts _ gw_539) (fun _ h9 => h9) rfl dX10_seen_68 ?_
  obtain ⟨q_3, hq_3, h⟩ := ob2 h
  refine kSV (As := [.ref (a0 1), .ref (a0 0)]) (rest := []) C0 (kt_X10_copies l G (a0 1) (a0 0) 76 (A0 1) 76 (A0 0) (by decide) (by decide) hq_3) gi_S_X10_290_X10_copies (n := 2) rfl (by decide +kernel) ⟨rfl, rfl, Nat.le_of_ble_eq_true rfl, Nat.le_of_ble_eq_true rfl⟩ hPD hS [2, 1] [0, 3, 4, 5, 6, 7, 8, 9, 10, 11, 12, 13, 14, 15, 16, 17, 18, 19, 20, 21, 22, 23, 24, 25, 26, 27, 28, 29, 30, 31, 32, 33] [0, 33, 32, 1, 2, 3, 4, 5, 6, 7, 8, 9, 10, 11, 12, 13, 14, 15, 16, 17, 18, 19, 20, 21, 22, 23, 24, 25, 26, 27, 28, 29, 30, 31] (wN := (wX10 G h0 a0 f0 (updA A0 0 q_3))) rfl rfl rfl rfl rfl hl.1 (Nat.le_of_ble_eq_true rfl) dX10_seen_71 (fun H locs hPD hS => ?_)
  obtain ⟨A0_4, eA0_4, h⟩ := lvl h
  have hPD : WD G DA (wX10 G h0 a0 f0 A0_4) H := by rw [eA0_4]; exact hPD
  clear eA0_4
  refine lv_iload_n hx hb dX10_seen_74 rfl (lv_at hl 2 rfl) ?_
  obtain rfl := Option.some.inj h
  exact eI C0 hPD.1 hPD.2 hS rfl dX10_seen_75
set_option maxRecDepth 100000 in
set_option maxHeartbeats 4000000 in
theorem ww_f10_seen_b28  (C0 : Cx cX10_seen 4 (some .int) RX10 p s m args meth c G DA) {h0 : Nat} {a0 : Nat → Nat} {p1 : Int32}  {k28 : (Nat → Nat → Int32) → (Nat → Int32) → Int32 → Int32 → Option (Int32 × (Nat → Nat → Int32) × (Nat → Int32))} {res : Int32 × (Nat → Nat → Int32) × (Nat → Int32)}  (hk28 : ∀ (A0 : Nat → Nat → Int32) (f0 : Nat → Int32) (l2 : Int32) (l3 : Int32), k28 A0 f0 l2 l3 = some res → ∀ (H : Heap) (locs : List Loc) (ls : Array Slot), WD G DA (wX10 G h0 a0 f0 A0) H → va_S DA s.heap H locs → lv_has ls 4 [(0, .ref h0), (1, .int p1), (2, .int l2), (3, .int l3)] → W p l e rmX10_seen s m args below meth c H locs 0 0 (MQ below (QI G DA res.1 (wX10 G h0 a0 res.2.2 res.2.1)) args s 0 0 DA) (F0 m 28 ls [])) : ∀ (A0 : Nat → Nat → Int32) (f0 : Nat → Int32) (l2 : Int32) (l3 : Int32), f10_seen_b28 p1  k28 A0 f0 l2 l3 = some res → ∀ (H : Heap) (locs : List Loc) (ls : Array Slot), WD G DA (wX10 G h0 a0 f0 A0) H → va_S DA s.heap H locs → lv_has ls 4 [(0, .ref h0), (1, .int p1), (2, .int l2), (3, .int l3)] → W p l e rmX10_seen s m args below meth c H locs 0 0 (MQ below (QI G DA res.1 (wX10 G h0 a0 res.2.2 res.2.1)) args s 0 0 DA) (F0 m 28 ls []) := by
  obtain ⟨hx, hb, hml, hown, hts⟩ := C0.1
  have hK := C0.2.2.2.1
  intro A0 f0 l2 l3 h _ _ _ hPD hS hl
  unfold f10_seen_b28 at h
  refine lv_iload_n hx hb dX10_seen_28 rfl (lv_at hl 3 rfl) ?_
  refine lv_iload_n hx hb dX10_seen_29 rfl (lv_at hl 1 rfl) ?_
  refine lv_icmp_ge (tgt := 63) hx hb dX10_seen_30 (by decide) (fun cc1 => ?_) (fun cc1 => ?_)
  · have h := (if_pos cc1).symm.trans h
    exact ww_f10_seen_b63 C0 A0 f0 l2 h _ _ _ hPD hS (lv_sub hl [0, 1, 2] rfl)
  · have h := (if_neg cc1).symm.trans h
    refine lv_aload_n hx hb dX10_seen_33 rfl (lv_at hl 0 rfl) ?_
    refine va_get (D := G.1) (ci := 10) (v := .ref (a0 0)) (C := RX10) (T := TX10) (N := 52) hx hb hts inlX10 hown hK hPD.1 0 rfl rfl 0 (by decide) (hts _ gw_539) (fun _ h9 => h9) rfl dX10_seen_34 ?_
    refine lv_bipush (v := 74) hx hb dX10_seen_37 (by decide) ?_
    refine va_iald hx hb hK hPD.1 1 1 rfl rfl (vin rfl) dX10_seen_39 ?_
    refine lv_sipush (v := 9999) hx hb dX10_seen_40 (by decide) ?_
    refine lv_icmp_ge (tgt := 63) hx hb dX10_seen_43 (by decide) (fun cc1 => ?_) (fun cc1 => ?_)
    · have h := (if_pos cc1).symm.trans h
      exact ww_f10_seen_b63 C0 A0 f0 l2 h _ _ _ hPD hS (lv_sub hl [0, 1, 2] rfl)
    · have h := (if_neg cc1).symm.trans h
      refine lv_aload_n hx hb dX10_seen_46 rfl (lv_at hl 0 rfl) ?_
      obtain ⟨q_5, hq_5, h⟩ := ob2 h
      refine kVV (As := []) (rest := []) C0 (kt_X10_hourGoes l G h0 a0 f0 A0 hq_5) gi_V_X10_323_X10_hourGoes (n := 0) rfl (by decide +kernel) rfl ⟨rfl, rfl, Nat.le_of_ble_eq_true rfl, Nat.le_of_ble_eq_true rfl⟩ hPD hS 0 10 rfl rfl rfl [0, 1, 2, 3, 4, 5, 6, 7, 8, 9, 10, 11, 12, 13, 14, 15, 16, 17, 18, 19, 20, 21, 22, 23, 24, 25, 26, 27, 28, 29, 30, 31, 32, 33] [] [0, 1, 2, 3, 4, 5, 6, 7, 8, 9, 10, 11, 12, 13, 14, 15, 16, 17, 18, 19, 20, 21, 22, 23, 24, 25, 26, 27, 28, 29, 30, 31, 32, 33] (wN := (wX10 G h0 a0 q_5.2 q_5.1)) rfl rfl rfl rfl rfl hl.1 (Nat.le_of_ble_eq_true rfl) dX10_seen_47 (fun H locs hPD hS => ?_)
      refine lv_iload_n hx hb dX10_seen_50 rfl (lv_at hl 2 rfl) ?_
      refine lv_aload_n hx hb dX10_seen_51 rfl (lv_at hl 0 rfl) ?_
      obtain ⟨q_6, hq_6, h⟩ := ob2 h
      refine kVI (As := []) (rest := [.int l2]) C0 (kt_X10_guarded l G h0 a0 q_5.2 q_5.1 hq_6) gi_V_X10_332_X10_guarded (n := 0) rfl (by decide +kernel) rfl ⟨rfl, rfl, Nat.le_of_ble_eq_true rfl, Nat.le_of_ble_eq_true rfl⟩ hPD hS 0 10 rfl rfl rfl [0, 1, 2, 3, 4, 5, 6, 7, 8, 9, 10, 11, 12, 13, 14, 15, 16, 17, 18, 19, 20, 21, 22, 23, 24, 25, 26, 27, 28, 29, 30, 31, 32, 33] [] [0, 1, 2, 3, 4, 5, 6, 7, 8, 9, 10, 11, 12, 13, 14, 15, 16, 17, 18, 19, 20, 21, 22, 23, 24, 25, 26, 27, 28, 29, 30, 31, 32, 33] (wN := (wX10 G h0 a0 q_5.2 q_5.1)) rfl rfl rfl rfl rfl hl.1 (Nat.le_of_ble_eq_true rfl) dX10_seen_52 (fun H locs hPD hS => ?_)
      refine lv_ior hx hb dX10_seen_55 ?_
      refine lv_istore_n (lv' := [(2, .int (l2 ||| q_6)), (0, .ref h0), (1, .int p1), (3, .int l3)]) hx hb dX10_seen_56 rfl hl (by decide) rfl (fun ls hl => ?_)
      refine lv_iinc (v := l3 + 1) (lv' := [(3, .int (l3 + 1)), (2, .int (l2 ||| q_6)), (0, .ref h0), (1, .int p1)]) hx hb dX10_seen_57 hl (k := 3) rfl rfl (by decide) rfl (fun ls hl => ?_)
      refine lv_goto (tgt := 28) hx hb dX10_seen_60 (by decide) ?_
      exact hk28 q_5.1 q_5.2 (l2 ||| q_6) (l3 + 1) h _ _ _ hPD hS (lv_sub hl [2, 3, 1, 0] rfl)
set_option maxRecDepth 100000 in
set_option maxHeartbeats 4000000 in
theorem ww_f10_seen_l28  (C0 : Cx cX10_seen 4 (some .int) RX10 p s m args meth c G DA) {h0 : Nat} {a0 : Nat → Nat} {p1 : Int32}   {res : Int32 × (Nat → Nat → Int32) × (Nat → Int32)}  : ∀ (n : Nat) (A0 : Nat → Nat → Int32) (f0 : Nat → Int32) (l2 : Int32) (l3 : Int32), f10_seen_l28 p1  n A0 f0 l2 l3 = some res → ∀ (H : Heap) (locs : List Loc) (ls : Array Slot), WD G DA (wX10 G h0 a0 f0 A0) H → va_S DA s.heap H locs → lv_has ls 4 [(0, .ref h0), (1, .int p1), (2, .int l2), (3, .int l3)] → W p l e rmX10_seen s m args below meth c H locs 0 0 (MQ below (QI G DA res.1 (wX10 G h0 a0 res.2.2 res.2.1)) args s 0 0 DA) (F0 m 28 ls []) := by
  intro n
  induction n with
  | zero => intro A0 f0 l2 l3 h; cases h
  | succ n ih => intro A0 f0 l2 l3 h; exact ww_f10_seen_b28 C0  ih A0 f0 l2 l3 h
set_option maxRecDepth 100000 in
set_option maxHeartbeats 4000000 in
theorem kt_X10_seen (l : Launch) (G : Gp) (h0 : Nat) (a0 : Nat → Nat) (f0 : Nat → Int32) (A0 : Nat → Nat → Int32) (p1 : Int32) : ∀ {r : Int32 × (Nat → Nat → Int32) × (Nat → Int32)}, f10_seen f0 A0 p1 = some r → CtrI l yX10_seen cX10_seen 4 (some .int) rmX10_seen G [.ref h0, .int p1] (wX10 G h0 a0 f0 A0) r.1 (wX10 G h0 a0 r.2.2 r.2.1) := by
  intro res h
  refine ctrI_of (cc := cX10_seen) (maxL := 4) (ret := (some .int)) (by decide +kernel) rfl (Nat.le_of_ble_eq_true rfl) (fun p e s m below meth c DA C0 hP hD ls hl => ?_)
  have hPD : WD G DA (wX10 G h0 a0 f0 A0) s.heap := ⟨hP, hD⟩
  have hS : va_S DA s.heap s.heap [] := va_S.rf
  have hl : lv_has ls 4 [(0, .ref h0), (1, .int p1)] := hl
  obtain ⟨hx, hb, hml, hown, hts⟩ := C0.1
  have hK := C0.2.2.2.1
  unfold f10_seen at h
  refine lv_iload_n hx hb dX10_seen_0 rfl (lv_at hl 1 rfl) ?_
  refine lv_iconst (v := 1) hx hb dX10_seen_1 (by decide) ?_
  refine lv_sipush (v := 240) hx hb dX10_seen_2 (by decide) ?_
  refine kSI (As := [.int p1, .int 1, .int 240]) (rest := []) C0 (kt_X10_in l G  p1 1 240) gi_S_X10_112_X10_in (n := 3) rfl (by decide +kernel) ⟨rfl, rfl, Nat.le_of_ble_eq_true rfl, Nat.le_of_ble_eq_true rfl⟩ hPD hS [] [0, 1, 2, 3, 4, 5, 6, 7, 8, 9, 10, 11, 12, 13, 14, 15, 16, 17, 18, 19, 20, 21, 22, 23, 24, 25, 26, 27, 28, 29, 30, 31, 32, 33] [0, 1, 2, 3, 4, 5, 6, 7, 8, 9, 10, 11, 12, 13, 14, 15, 16, 17, 18, 19, 20, 21, 22, 23, 24, 25, 26, 27, 28, 29, 30, 31, 32, 33] (wN := (wX10 G h0 a0 f0 A0)) rfl rfl rfl rfl rfl hl.1 (Nat.le_of_ble_eq_true rfl) dX10_seen_5 (fun H locs hPD hS => ?_)
  refine lv_if_ne (tgt := 13) hx hb dX10_seen_8 (by decide) (fun cc1 => ?_) (fun cc1 => ?_)
  · have h := (if_neg cc1).symm.trans h
    refine lv_aload_n hx hb dX10_seen_13 rfl (lv_at hl 0 rfl) ?_
    refine va_get (D := G.1) (ci := 10) (v := .ref (a0 0)) (C := RX10) (T := TX10) (N := 52) hx hb hts inlX10 hown hK hPD.1 0 rfl rfl 0 (by decide) (hts _ gw_539) (fun _ h9 => h9) rfl dX10_seen_14 ?_
    refine lv_aload_n hx hb dX10_seen_17 rfl (lv_at hl 0 rfl) ?_
    refine va_get (D := G.1) (ci := 10) (v := .ref (a0 1)) (C := RX10) (T := TX10) (N := 52) hx hb hts inlX10 hown hK hPD.1 0 rfl rfl 1 (by decide) (hts _ gw_719) (fun _ h9 => h9) rfl dX10_seen_18 ?_
    obtain ⟨q_1, hq_1, h⟩ := ob2 h
    refine kSV (As := [.ref (a0 0), .ref (a0 1)]) (rest := []) C0 (kt_X10_copies l G (a0 0) (a0 1) 76 (A0 0) 76 (A0 1) (by decide) (by decide) hq_1) gi_S_X10_290_X10_copies (n := 2) rfl (by decide +kernel) ⟨rfl, rfl, Nat.le_of_ble_eq_true rfl, Nat.le_of_ble_eq_true rfl⟩ hPD hS [1, 2] [0, 3, 4, 5, 6, 7, 8, 9, 10, 11, 12, 13, 14, 15, 16, 17, 18, 19, 20, 21, 22, 23, 24, 25, 26, 27, 28, 29, 30, 31, 32, 33] [0, 32, 33, 1, 2, 3, 4, 5, 6, 7, 8, 9, 10, 11, 12, 13, 14, 15, 16, 17, 18, 19, 20, 21, 22, 23, 24, 25, 26, 27, 28, 29, 30, 31] (wN := (wX10 G h0 a0 f0 (updA A0 1 q_1))) rfl rfl rfl rfl rfl hl.1 (Nat.le_of_ble_eq_true rfl) dX10_seen_21 (fun H locs hPD hS => ?_)
    obtain ⟨A0_2, eA0_2, h⟩ := lvl h
    have hPD : WD G DA (wX10 G h0 a0 f0 A0_2) H := by rw [eA0_2]; exact hPD
    clear eA0_2
    refine lv_iconst (v := 0) hx hb dX10_seen_24 (by decide) ?_
    refine lv_istore_n (lv' := [(2, .int 0), (0, .ref h0), (1, .int p1)]) hx hb dX10_seen_25 rfl hl (by decide) rfl (fun ls hl => ?_)
    refine lv_iconst (v := 0) hx hb dX10_seen_26 (by decide) ?_
    refine lv_istore_n (lv' := [(3, .int 0), (2, .int 0), (0, .ref h0), (1, .int p1)]) hx hb dX10_seen_27 rfl hl (by decide) rfl (fun ls hl => ?_)
    exact ww_f10_seen_l28 C0 NF A0_2 f0 0 0 h _ _ _ hPD hS (lv_sub hl [2, 3, 1, 0] rfl)
  · have h := (if_pos cc1).symm.trans h
    refine lv_iconst (v := (-1)) hx hb dX10_seen_11 (by decide) ?_
    obtain rfl := Option.some.inj h
    exact eI C0 hPD.1 hPD.2 hS rfl dX10_seen_12
abbrev rmX10_quiet : Room := { frames := 8, cells := 0, slots := 0, locals := 177 }
set_option maxRecDepth 100000 in
set_option maxHeartbeats 4000000 in
theorem ww_f10_quiet_b86  (C0 : Cx cX10_quiet 5 (some .int) RX10 p s m args meth c G DA) {h0 : Nat} {a0 : Nat → Nat} {p1 : Int32}   {res : Int32 × (Nat → Nat → Int32) × (Nat → Int32)}  : ∀ (A0 : Nat → Nat → Int32) (f0 : Nat → Int32) (l3 : Int32), f10_quiet_b86 p1  A0 f0 l3 = some res → ∀ (H : Heap) (locs : List Loc) (ls : Array Slot), WD G DA (wX10 G h0 a0 f0 A0) H → va_S DA s.heap H locs → lv_has ls 5 [(0, .ref h0), (1, .int p1), (3, .int l3)] → W p l e rmX10_quiet s m args below meth c H locs 0 0 (MQ below (QI G DA res.1 (wX10 G h0 a0 res.2.2 res.2.1)) args s 0 0 DA) (F0 m 86 ls []) := by
  obtain ⟨hx, hb, hml, hown, hts⟩ := C0.1
  have hK := C0.2.2.2.1
  intro A0 f0 l3 h _ _ _ hPD hS hl
  unfold f10_quiet_b86 at h
  refine lv_aload_n hx hb dX10_quiet_86 rfl (lv_at hl 0 rfl) ?_
  refine va_get (D := G.1) (ci := 10) (v := .ref (a0 1)) (C := RX10) (T := TX10) (N := 52) hx hb hts inlX10 hown hK hPD.1 0 rfl rfl 1 (by decide) (hts _ gw_719) (fun _ h9 => h9) rfl dX10_quiet_87 ?_
  refine lv_aload_n hx hb dX10_quiet_90 rfl (lv_at hl 0 rfl) ?_
  refine va_get (D := G.1) (ci := 10) (v := .ref (a0 0)) (C := RX10) (T := TX10) (N := 52) hx hb hts inlX10 hown hK hPD.1 0 rfl rfl 0 (by decide) (hts _ gw_539) (fun _ h9 => h9) rfl dX10_quiet_91 ?_
  obtain ⟨q_3, hq_3, h⟩ := ob2 h
  refine kSV (As := [.ref (a0 1), .ref (a0 0)]) (rest := []) C0 (kt_X10_copies l G (a0 1) (a0 0) 76 (A0 1) 76 (A0 0) (by decide) (by decide) hq_3) gi_S_X10_290_X10_copies (n := 2) rfl (by decide +kernel) ⟨rfl, rfl, Nat.le_of_ble_eq_true rfl, Nat.le_of_ble_eq_true rfl⟩ hPD hS [2, 1] [0, 3, 4, 5, 6, 7, 8, 9, 10, 11, 12, 13, 14, 15, 16, 17, 18, 19, 20, 21, 22, 23, 24, 25, 26, 27, 28, 29, 30, 31, 32, 33] [0, 33, 32, 1, 2, 3, 4, 5, 6, 7, 8, 9, 10, 11, 12, 13, 14, 15, 16, 17, 18, 19, 20, 21, 22, 23, 24, 25, 26, 27, 28, 29, 30, 31] (wN := (wX10 G h0 a0 f0 (updA A0 0 q_3))) rfl rfl rfl rfl rfl hl.1 (Nat.le_of_ble_eq_true rfl) dX10_quiet_94 (fun H locs hPD hS => ?_)
  obtain ⟨A0_4, eA0_4, h⟩ := lvl h
  have hPD : WD G DA (wX10 G h0 a0 f0 A0_4) H := by rw [eA0_4]; exact hPD
  clear eA0_4
  refine lv_iload_n hx hb dX10_quiet_97 rfl (lv_at hl 2 rfl) ?_
  obtain rfl := Option.some.inj h
  exact eI C0 hPD.1 hPD.2 hS rfl dX10_quiet_98
set_option maxRecDepth 100000 in
set_option maxHeartbeats 4000000 in
theorem ww_f10_quiet_b73  (C0 : Cx cX10_quiet 5 (some .int) RX10 p s m args meth c G DA) {h0 : Nat} {a0 : Nat → Nat} {p1 : Int32}  {k31 : (Nat → Nat → Int32) → (Nat → Int32) → Int32 → Int32 → Int32 → Option (Int32 × (Nat → Nat → Int32) × (Nat → Int32))} {res : Int32 × (Nat → Nat → Int32) × (Nat → Int32)} (hk31 : ∀ (A0 : Nat → Nat → Int32) (f0 : Nat → Int32) (l2 : Int32) (l3 : Int32) (l4 : Int32), k31 A0 f0 l2 l3 l4 = some res → ∀ (H : Heap) (locs : List Loc) (ls : Array Slot), WD G DA (wX10 G h0 a0 f0 A0) H → va_S DA s.heap H locs → lv_has ls 5 [(0, .ref h0), (1, .int p1), (2, .int l2), (3, .int l3), (4, .int l4)] → W p l e rmX10_quiet s m args below meth c H locs 0 0 (MQ below (QI G DA res.1 (wX10 G h0 a0 res.2.2 res.2.1)) args s 0 0 DA) (F0 m 31 ls [])) : ∀ (A0 : Nat → Nat → Int32) (f0 : Nat → Int32) (l3 : Int32) (l4 : Int32) (s0 : Int32), f10_quiet_b73 p1 k31 A0 f0 l3 l4 s0 = some res → ∀ (H : Heap) (locs : List Loc) (ls : Array Slot), WD G DA (wX10 G h0 a0 f0 A0) H → va_S DA s.heap H locs → lv_has ls 5 [(0, .ref h0), (1, .int p1), (3, .int l3), (4, .int l4)] → W p l e rmX10_quiet s m args below meth c H locs 0 0 (MQ below (QI G DA res.1 (wX10 G h0 a0 res.2.2 res.2.1)) args s 0 0 DA) (F0 m 73 ls [.int s0]) := by
  obtain ⟨hx, hb, hml, hown, hts⟩ := C0.1
  have hK := C0.2.2.2.1
  intro A0 f0 l3 l4 s0 h _ _ _ hPD hS hl
  unfold f10_quiet_b73 at h
  refine lv_istore_n (lv' := [(2, .int s0), (0, .ref h0), (1, .int p1), (3, .int l3), (4, .int l4)]) hx hb dX10_quiet_73 rfl hl (by decide) rfl (fun ls hl => ?_)
  refine lv_iload_n hx hb dX10_quiet_74 rfl (lv_at hl 3 rfl) ?_
  refine lv_iload_n hx hb dX10_quiet_75 rfl (lv_at hl 0 rfl) ?_
  refine kSI (As := [.int l3, .int s0]) (rest := []) C0 (kt_X10_max l G  l3 s0) gi_S_X10_287_X10_max (n := 2) rfl (by decide +kernel) ⟨rfl, rfl, Nat.le_of_ble_eq_true rfl, Nat.le_of_ble_eq_true rfl⟩ hPD hS [] [0, 1, 2, 3, 4, 5, 6, 7, 8, 9, 10, 11, 12, 13, 14, 15, 16, 17, 18, 19, 20, 21, 22, 23, 24, 25, 26, 27, 28, 29, 30, 31, 32, 33] [0, 1, 2, 3, 4, 5, 6, 7, 8, 9, 10, 11, 12, 13, 14, 15, 16, 17, 18, 19, 20, 21, 22, 23, 24, 25, 26, 27, 28, 29, 30, 31, 32, 33] (wN := (wX10 G h0 a0 f0 A0)) rfl rfl rfl rfl rfl hl.1 (Nat.le_of_ble_eq_true rfl) dX10_quiet_76 (fun H locs hPD hS => ?_)
  refine lv_istore_n (lv' := [(3, .int (f10_max l3 s0)), (2, .int s0), (0, .ref h0), (1, .int p1), (4, .int l4)]) hx hb dX10_quiet_79 rfl hl (by decide) rfl (fun ls hl => ?_)
  refine lv_iinc (v := l4 + 1) (lv' := [(4, .int (l4 + 1)), (3, .int (f10_max l3 s0)), (2, .int s0), (0, .ref h0), (1, .int p1)]) hx hb dX10_quiet_80 hl (k := 4) rfl rfl (by decide) rfl (fun ls hl => ?_)
  refine lv_goto (tgt := 31) hx hb dX10_quiet_83 (by decide) ?_
  exact hk31 A0 f0 s0 (f10_max l3 s0) (l4 + 1) h _ _ _ hPD hS (lv_sub hl [3, 4, 2, 1, 0] rfl)
set_option maxRecDepth 100000 in
set_option maxHeartbeats 4000000 in
theorem ww_f10_quiet_b31  (C0 : Cx cX10_quiet 5 (some .int) RX10 p s m args meth c G DA) {h0 : Nat} {a0 : Nat → Nat} {p1 : Int32}  {k31 : (Nat → Nat → Int32) → (Nat → Int32) → Int32 → Int32 → Int32 → Option (Int32 × (Nat → Nat → Int32) × (Nat → Int32))} {res : Int32 × (Nat → Nat → Int32) × (Nat → Int32)}  (hk31 : ∀ (A0 : Nat → Nat → Int32) (f0 : Nat → Int32) (l2 : Int32) (l3 : Int32) (l4 : Int32), k31 A0 f0 l2 l3 l4 = some res → ∀ (H : Heap) (locs : List Loc) (ls : Array Slot), WD G DA (wX10 G h0 a0 f0 A0) H → va_S DA s.heap H locs → lv_has ls 5 [(0, .ref h0), (1, .int p1), (2, .int l2), (3, .int l3), (4, .int l4)] → W p l e rmX10_quiet s m args below meth c H locs 0 0 (MQ below (QI G DA res.1 (wX10 G h0 a0 res.2.2 res.2.1)) args s 0 0 DA) (F0 m 31 ls [])) : ∀ (A0 : Nat → Nat → Int32) (f0 : Nat → Int32) (l2 : Int32) (l3 : Int32) (l4 : Int32), f10_quiet_b31 p1  k31 A0 f0 l2 l3 l4 = some res → ∀ (H : Heap) (locs : List Loc) (ls : Array Slot), WD G DA (wX10 G h0 a0 f0 A0) H → va_S DA s.heap H locs → lv_has ls 5 [(0, .ref h0), (1, .int p1), (2, .int l2), (3, .int l3), (4, .int l4)] → W p l e rmX10_quiet s m args below meth c H locs 0 0 (MQ below (QI G DA res.1 (wX10 G h0 a0 res.2.2 res.2.1)) args s 0 0 DA) (F0 m 31 ls []) := by
  obtain ⟨hx, hb, hml, hown, hts⟩ := C0.1
  have hK := C0.2.2.2.1
  intro A0 f0 l2 l3 l4 h _ _ _ hPD hS hl
  unfold f10_quiet_b31 at h
  refine lv_iload hx hb dX10_quiet_31 (lv_at hl 4 rfl) ?_
  refine lv_iload_n hx hb dX10_quiet_33 rfl (lv_at hl 1 rfl) ?_
  refine lv_icmp_ge (tgt := 86) hx hb dX10_quiet_34 (by decide) (fun cc1 => ?_) (fun cc1 => ?_)
  · have h := (if_pos cc1).symm.trans h
    exact ww_f10_quiet_b86 C0 A0 f0 l3 h _ _ _ hPD hS (lv_sub hl [0, 1, 3] rfl)
  · have h := (if_neg cc1).symm.trans h
    refine lv_aload_n hx hb dX10_quiet_37 rfl (lv_at hl 0 rfl) ?_
    refine va_get (D := G.1) (ci := 10) (v := .ref (a0 0)) (C := RX10) (T := TX10) (N := 52) hx hb hts inlX10 hown hK hPD.1 0 rfl rfl 0 (by decide) (hts _ gw_539) (fun _ h9 => h9) rfl dX10_quiet_38 ?_
    refine lv_bipush (v := 74) hx hb dX10_quiet_41 (by decide) ?_
    refine va_iald hx hb hK hPD.1 1 1 rfl rfl (vin rfl) dX10_quiet_43 ?_
    refine lv_sipush (v := 9999) hx hb dX10_quiet_44 (by decide) ?_
    refine lv_icmp_ge (tgt := 86) hx hb dX10_quiet_47 (by decide) (fun cc1 => ?_) (fun cc1 => ?_)
    · have h := (if_pos cc1).symm.trans h
      exact ww_f10_quiet_b86 C0 A0 f0 l3 h _ _ _ hPD hS (lv_sub hl [0, 1, 3] rfl)
    · have h := (if_neg cc1).symm.trans h
      refine lv_aload_n hx hb dX10_quiet_50 rfl (lv_at hl 0 rfl) ?_
      refine lv_iconst (v := 0) hx hb dX10_quiet_51 (by decide) ?_
      refine va_put (D := G.1) (ci := 10) (v := .int 0) (ty := .int) (C := RX10) (T := TX10) (N := 52) hx hb hts inlX10 tyX10 tyX10_ok nmX10 hown hK hPD.1 hPD.2 hS 0 rfl rfl 41 (by decide) (hts _ gw_743) (fun _ h9 => h9) rfl (by decide +kernel) rfl rfl (Nat.le_of_ble_eq_true rfl) dX10_quiet_52 (fun H locs hP hD hS => ?_)
      obtain ⟨f0_5, ef0_5, h⟩ := lvl h
      have hPD : WD G DA (wX10 G h0 a0 f0_5 A0) H := by rw [ef0_5]; exact ⟨hP, hD⟩
      clear ef0_5 hP hD
      refine lv_aload_n hx hb dX10_quiet_55 rfl (lv_at hl 0 rfl) ?_
      obtain ⟨q_6, hq_6, h⟩ := ob2 h
      refine kVV (As := []) (rest := []) C0 (kt_X10_hourGoes l G h0 a0 f0_5 A0 hq_6) gi_V_X10_323_X10_hourGoes (n := 0) rfl (by decide +kernel) rfl ⟨rfl, rfl, Nat.le_of_ble_eq_true rfl, Nat.le_of_ble_eq_true rfl⟩ hPD hS 0 10 rfl rfl rfl [0, 1, 2, 3, 4, 5, 6, 7, 8, 9, 10, 11, 12, 13, 14, 15, 16, 17, 18, 19, 20, 21, 22, 23, 24, 25, 26, 27, 28, 29, 30, 31, 32, 33] [] [0, 1, 2, 3, 4, 5, 6, 7, 8, 9, 10, 11, 12, 13, 14, 15, 16, 17, 18, 19, 20, 21, 22, 23, 24, 25, 26, 27, 28, 29, 30, 31, 32, 33] (wN := (wX10 G h0 a0 q_6.2 q_6.1)) rfl rfl rfl rfl rfl hl.1 (Nat.le_of_ble_eq_true rfl) dX10_quiet_56 (fun H locs hPD hS => ?_)
      refine lv_aload_n hx hb dX10_quiet_59 rfl (lv_at hl 0 rfl) ?_
      refine va_get (D := G.1) (ci := 10) (v := .int (q_6.2 41)) (C := RX10) (T := TX10) (N := 52) hx hb hts inlX10 hown hK hPD.1 0 rfl rfl 41 (by decide) (hts _ gw_743) (fun _ h9 => h9) rfl dX10_quiet_60 ?_
      refine lv_if_le (tgt := 70) hx hb dX10_quiet_63 (by decide) (fun cc1 => ?_) (fun cc1 => ?_)
      · have h := (if_pos cc1).symm.trans h
        refine lv_iload_n hx hb dX10_quiet_70 rfl (lv_at hl 2 rfl) ?_
        refine lv_iconst (v := 1) hx hb dX10_quiet_71 (by decide) ?_
        refine lv_iadd hx hb dX10_quiet_72 ?_
        exact ww_f10_quiet_b73 C0 hk31 q_6.1 q_6.2 l3 l4 (l2 + 1) h _ _ _ hPD hS (lv_sub hl [0, 1, 3, 4] rfl)
      · have h := (if_neg cc1).symm.trans h
        refine lv_iconst (v := 0) hx hb dX10_quiet_66 (by decide) ?_
        refine lv_goto (tgt := 73) hx hb dX10_quiet_67 (by decide) ?_
        exact ww_f10_quiet_b73 C0 hk31 q_6.1 q_6.2 l3 l4 0 h _ _ _ hPD hS (lv_sub hl [0, 1, 3, 4] rfl)
set_option maxRecDepth 100000 in
set_option maxHeartbeats 4000000 in
theorem ww_f10_quiet_l31  (C0 : Cx cX10_quiet 5 (some .int) RX10 p s m args meth c G DA) {h0 : Nat} {a0 : Nat → Nat} {p1 : Int32}   {res : Int32 × (Nat → Nat → Int32) × (Nat → Int32)}  : ∀ (n : Nat) (A0 : Nat → Nat → Int32) (f0 : Nat → Int32) (l2 : Int32) (l3 : Int32) (l4 : Int32), f10_quiet_l31 p1  n A0 f0 l2 l3 l4 = some res → ∀ (H : Heap) (locs : List Loc) (ls : Array Slot), WD G DA (wX10 G h0 a0 f0 A0) H → va_S DA s.heap H locs → lv_has ls 5 [(0, .ref h0), (1, .int p1), (2, .int l2), (3, .int l3), (4, .int l4)] → W p l e rmX10_quiet s m args below meth c H locs 0 0 (MQ below (QI G DA res.1 (wX10 G h0 a0 res.2.2 res.2.1)) args s 0 0 DA) (F0 m 31 ls []) := by
  intro n
  induction n with
  | zero => intro A0 f0 l2 l3 l4 h; cases h
  | succ n ih => intro A0 f0 l2 l3 l4 h; exact ww_f10_quiet_b31 C0  ih A0 f0 l2 l3 l4 h
set_option maxRecDepth 100000 in
set_option maxHeartbeats 4000000 in
theorem kt_X10_quiet (l : Launch) (G : Gp) (h0 : Nat) (a0 : Nat → Nat) (f0 : Nat → Int32) (A0 : Nat → Nat → Int32) (p1 : Int32) : ∀ {r : Int32 × (Nat → Nat → Int32) × (Nat → Int32)}, f10_quiet f0 A0 p1 = some r → CtrI l yX10_quiet cX10_quiet 5 (some .int) rmX10_quiet G [.ref h0, .int p1] (wX10 G h0 a0 f0 A0) r.1 (wX10 G h0 a0 r.2.2 r.2.1) := by
  intro res h
  refine ctrI_of (cc := cX10_quiet) (maxL := 5) (ret := (some .int)) (by decide +kernel) rfl (Nat.le_of_ble_eq_true rfl) (fun p e s m below meth c DA C0 hP hD ls hl => ?_)
  have hPD : WD G DA (wX10 G h0 a0 f0 A0) s.heap := ⟨hP, hD⟩
  have hS : va_S DA s.heap s.heap [] := va_S.rf
  have hl : lv_has ls 5 [(0, .ref h0), (1, .int p1)] := hl
  obtain ⟨hx, hb, hml, hown, hts⟩ := C0.1
  have hK := C0.2.2.2.1
  unfold f10_quiet at h
  refine lv_iload_n hx hb dX10_quiet_0 rfl (lv_at hl 1 rfl) ?_
  refine lv_iconst (v := 1) hx hb dX10_quiet_1 (by decide) ?_
  refine lv_sipush (v := 240) hx hb dX10_quiet_2 (by decide) ?_
  refine kSI (As := [.int p1, .int 1, .int 240]) (rest := []) C0 (kt_X10_in l G  p1 1 240) gi_S_X10_112_X10_in (n := 3) rfl (by decide +kernel) ⟨rfl, rfl, Nat.le_of_ble_eq_true rfl, Nat.le_of_ble_eq_true rfl⟩ hPD hS [] [0, 1, 2, 3, 4, 5, 6, 7, 8, 9, 10, 11, 12, 13, 14, 15, 16, 17, 18, 19, 20, 21, 22, 23, 24, 25, 26, 27, 28, 29, 30, 31, 32, 33] [0, 1, 2, 3, 4, 5, 6, 7, 8, 9, 10, 11, 12, 13, 14, 15, 16, 17, 18, 19, 20, 21, 22, 23, 24, 25, 26, 27, 28, 29, 30, 31, 32, 33] (wN := (wX10 G h0 a0 f0 A0)) rfl rfl rfl rfl rfl hl.1 (Nat.le_of_ble_eq_true rfl) dX10_quiet_5 (fun H locs hPD hS => ?_)
  refine lv_if_ne (tgt := 13) hx hb dX10_quiet_8 (by decide) (fun cc1 => ?_) (fun cc1 => ?_)
  · have h := (if_neg cc1).symm.trans h
    refine lv_aload_n hx hb dX10_quiet_13 rfl (lv_at hl 0 rfl) ?_
    refine va_get (D := G.1) (ci := 10) (v := .ref (a0 0)) (C := RX10) (T := TX10) (N := 52) hx hb hts inlX10 hown hK hPD.1 0 rfl rfl 0 (by decide) (hts _ gw_539) (fun _ h9 => h9) rfl dX10_quiet_14 ?_
    refine lv_aload_n hx hb dX10_quiet_17 rfl (lv_at hl 0 rfl) ?_
    refine va_get (D := G.1) (ci := 10) (v := .ref (a0 1)) (C := RX10) (T := TX10) (N := 52) hx hb hts inlX10 hown hK hPD.1 0 rfl rfl 1 (by decide) (hts _ gw_719) (fun _ h9 => h9) rfl dX10_quiet_18 ?_
    obtain ⟨q_1, hq_1, h⟩ := ob2 h
    refine kSV (As := [.ref (a0 0), .ref (a0 1)]) (rest := []) C0 (kt_X10_copies l G (a0 0) (a0 1) 76 (A0 0) 76 (A0 1) (by decide) (by decide) hq_1) gi_S_X10_290_X10_copies (n := 2) rfl (by decide +kernel) ⟨rfl, rfl, Nat.le_of_ble_eq_true rfl, Nat.le_of_ble_eq_true rfl⟩ hPD hS [1, 2] [0, 3, 4, 5, 6, 7, 8, 9, 10, 11, 12, 13, 14, 15, 16, 17, 18, 19, 20, 21, 22, 23, 24, 25, 26, 27, 28, 29, 30, 31, 32, 33] [0, 32, 33, 1, 2, 3, 4, 5, 6, 7, 8, 9, 10, 11, 12, 13, 14, 15, 16, 17, 18, 19, 20, 21, 22, 23, 24, 25, 26, 27, 28, 29, 30, 31] (wN := (wX10 G h0 a0 f0 (updA A0 1 q_1))) rfl rfl rfl rfl rfl hl.1 (Nat.le_of_ble_eq_true rfl) dX10_quiet_21 (fun H locs hPD hS => ?_)
    obtain ⟨A0_2, eA0_2, h⟩ := lvl h
    have hPD : WD G DA (wX10 G h0 a0 f0 A0_2) H := by rw [eA0_2]; exact hPD
    clear eA0_2
    refine lv_iconst (v := 0) hx hb dX10_quiet_24 (by decide) ?_
    refine lv_istore_n (lv' := [(2, .int 0), (0, .ref h0), (1, .int p1)]) hx hb dX10_quiet_25 rfl hl (by decide) rfl (fun ls hl => ?_)
    refine lv_iconst (v := 0) hx hb dX10_quiet_26 (by decide) ?_
    refine lv_istore_n (lv' := [(3, .int 0), (2, .int 0), (0, .ref h0), (1, .int p1)]) hx hb dX10_quiet_27 rfl hl (by decide) rfl (fun ls hl => ?_)
    refine lv_iconst (v := 0) hx hb dX10_quiet_28 (by decide) ?_
    refine lv_istore (lv' := [(4, .int 0), (3, .int 0), (2, .int 0), (0, .ref h0), (1, .int p1)]) hx hb dX10_quiet_29 hl (by decide) rfl (fun ls hl => ?_)
    exact ww_f10_quiet_l31 C0 NF A0_2 f0 0 0 0 h _ _ _ hPD hS (lv_sub hl [3, 4, 2, 1, 0] rfl)
  · have h := (if_pos cc1).symm.trans h
    refine lv_iconst (v := (-1)) hx hb dX10_quiet_11 (by decide) ?_
    obtain rfl := Option.some.inj h
    exact eI C0 hPD.1 hPD.2 hS rfl dX10_quiet_12
abbrev rmX10_worst : Room := { frames := 2, cells := 0, slots := 0, locals := 43 }
set_option maxRecDepth 100000 in
set_option maxHeartbeats 4000000 in
theorem ww_f10_worst_b7  (C0 : Cx cX10_worst 4 (some .int) RX10 p s m args meth c G DA) {h0 : Nat} {a0 : Nat → Nat} {f0 : Nat → Int32} {A0 : Nat → Nat → Int32}  {k7 : Int32 → Int32 → Int32 → Option (Int32)} {res : Int32}  (hk7 : ∀ (l1 : Int32) (l2 : Int32) (l3 : Int32), k7 l1 l2 l3 = some res → ∀ (H : Heap) (locs : List Loc) (ls : Array Slot), WD G DA (wX10 G h0 a0 f0 A0) H → va_S DA s.heap H locs → lv_has ls 4 [(0, .ref h0), (1, .int l1), (2, .int l2), (3, .int l3)] → W p l e rmX10_worst s m args below meth c H locs 0 0 (MQ below (QI G DA res (wX10 G h0 a0 f0 A0)) args s 0 0 DA) (F0 m 7 ls [])) : ∀ (l1 : Int32) (l2 : Int32) (l3 : Int32), f10_worst_b7 f0 A0  k7 l1 l2 l3 = some res → ∀ (H : Heap) (locs : List Loc) (ls : Array Slot), WD G DA (wX10 G h0 a0 f0 A0) H → va_S DA s.heap H locs → lv_has ls 4 [(0, .ref h0), (1, .int l1), (2, .int l2), (3, .int l3)] → W p l e rmX10_worst s m args below meth c H locs 0 0 (MQ below (QI G DA res (wX10 G h0 a0 f0 A0)) args s 0 0 DA) (F0 m 7 ls []) := by
  obtain ⟨hx, hb, hml, hown, hts⟩ := C0.1
  have hK := C0.2.2.2.1
  intro l1 l2 l3 h _ _ _ hPD hS hl
  unfold f10_worst_b7 at h
  refine lv_iload_n hx hb dX10_worst_7 rfl (lv_at hl 3 rfl) ?_
  refine lv_bipush (v := 16) hx hb dX10_worst_8 (by decide) ?_
  refine lv_icmp_ge (tgt := 73) hx hb dX10_worst_10 (by decide) (fun cc1 => ?_) (fun cc1 => ?_)
  · have h := (if_pos cc1).symm.trans h
    refine lv_iload_n hx hb dX10_worst_73 rfl (lv_at hl 1 rfl) ?_
    obtain rfl := Option.some.inj h
    exact eI C0 hPD.1 hPD.2 hS rfl dX10_worst_74
  · have h := (if_neg cc1).symm.trans h
    refine lv_aload_n hx hb dX10_worst_13 rfl (lv_at hl 0 rfl) ?_
    refine lv_iload_n hx hb dX10_worst_14 rfl (lv_at hl 3 rfl) ?_
    refine kVI (As := [.int l3]) (rest := []) C0 (kt_X10_isTold l G h0 a0 f0 A0 l3) gi_V_X10_128_X10_isTold (n := 1) rfl (by decide +kernel) rfl ⟨rfl, rfl, Nat.le_of_ble_eq_true rfl, Nat.le_of_ble_eq_true rfl⟩ hPD hS 0 10 rfl rfl rfl [0, 1, 2, 3, 4, 5, 6, 7, 8, 9, 10, 11, 12, 13, 14, 15, 16, 17, 18, 19, 20, 21, 22, 23, 24, 25, 26, 27, 28, 29, 30, 31, 32, 33] [] [0, 1, 2, 3, 4, 5, 6, 7, 8, 9, 10, 11, 12, 13, 14, 15, 16, 17, 18, 19, 20, 21, 22, 23, 24, 25, 26, 27, 28, 29, 30, 31, 32, 33] (wN := (wX10 G h0 a0 f0 A0)) rfl rfl rfl rfl rfl hl.1 (Nat.le_of_ble_eq_true rfl) dX10_worst_15 (fun H locs hPD hS => ?_)
    refine lv_if_eq (tgt := 67) hx hb dX10_worst_18 (by decide) (fun cc1 => ?_) (fun cc1 => ?_)
    · have h := (if_pos cc1).symm.trans h
      refine lv_iinc (v := l3 + 1) (lv' := [(3, .int (l3 + 1)), (0, .ref h0), (1, .int l1), (2, .int l2)]) hx hb dX10_worst_67 hl (k := 3) rfl rfl (by decide) rfl (fun ls hl => ?_)
      refine lv_goto (tgt := 7) hx hb dX10_worst_70 (by decide) ?_
      exact hk7 l1 l2 (l3 + 1) h _ _ _ hPD hS (lv_sub hl [1, 2, 3, 0] rfl)
    · have h := (if_neg cc1).symm.trans h
      refine lv_aload_n hx hb dX10_worst_21 rfl (lv_at hl 0 rfl) ?_
      refine va_get (D := G.1) (ci := 10) (v := .ref (a0 0)) (C := RX10) (T := TX10) (N := 52) hx hb hts inlX10 hown hK hPD.1 0 rfl rfl 0 (by decide) (hts _ gw_539) (fun _ h9 => h9) rfl dX10_worst_22 ?_
      refine lv_iconst (v := 0) hx hb dX10_worst_25 (by decide) ?_
      refine lv_iload_n hx hb dX10_worst_26 rfl (lv_at hl 3 rfl) ?_
      refine lv_iadd hx hb dX10_worst_27 ?_
      obtain ⟨hi_1, h⟩ := ob h
      refine va_iald hx hb hK hPD.1 1 1 rfl rfl hi_1 dX10_worst_28 ?_
      refine lv_aload_n hx hb dX10_worst_29 rfl (lv_at hl 0 rfl) ?_
      refine va_get (D := G.1) (ci := 10) (v := .ref (a0 0)) (C := RX10) (T := TX10) (N := 52) hx hb hts inlX10 hown hK hPD.1 0 rfl rfl 0 (by decide) (hts _ gw_539) (fun _ h9 => h9) rfl dX10_worst_30 ?_
      refine lv_bipush (v := 16) hx hb dX10_worst_33 (by decide) ?_
      refine lv_iload_n hx hb dX10_worst_35 rfl (lv_at hl 3 rfl) ?_
      refine lv_iadd hx hb dX10_worst_36 ?_
      obtain ⟨hi_2, h⟩ := ob h
      refine va_iald hx hb hK hPD.1 1 1 rfl rfl hi_2 dX10_worst_37 ?_
      refine lv_imul hx hb dX10_worst_38 ?_
      refine lv_iload_n hx hb dX10_worst_39 rfl (lv_at hl 2 rfl) ?_
      refine lv_icmp_gt (tgt := 46) hx hb dX10_worst_40 (by decide) (fun cc1 => ?_) (fun cc1 => ?_)
      · have h := (if_pos cc1).symm.trans h
        refine lv_aload_n hx hb dX10_worst_46 rfl (lv_at hl 0 rfl) ?_
        refine va_get (D := G.1) (ci := 10) (v := .ref (a0 0)) (C := RX10) (T := TX10) (N := 52) hx hb hts inlX10 hown hK hPD.1 0 rfl rfl 0 (by decide) (hts _ gw_539) (fun _ h9 => h9) rfl dX10_worst_47 ?_
        refine lv_iconst (v := 0) hx hb dX10_worst_50 (by decide) ?_
        refine lv_iload_n hx hb dX10_worst_51 rfl (lv_at hl 3 rfl) ?_
        refine lv_iadd hx hb dX10_worst_52 ?_
        obtain ⟨hi_3, h⟩ := ob h
        refine va_iald hx hb hK hPD.1 1 1 rfl rfl hi_3 dX10_worst_53 ?_
        refine lv_aload_n hx hb dX10_worst_54 rfl (lv_at hl 0 rfl) ?_
        refine va_get (D := G.1) (ci := 10) (v := .ref (a0 0)) (C := RX10) (T := TX10) (N := 52) hx hb hts inlX10 hown hK hPD.1 0 rfl rfl 0 (by decide) (hts _ gw_539) (fun _ h9 => h9) rfl dX10_worst_55 ?_
        refine lv_bipush (v := 16) hx hb dX10_worst_58 (by decide) ?_
        refine lv_iload_n hx hb dX10_worst_60 rfl (lv_at hl 3 rfl) ?_
        refine lv_iadd hx hb dX10_worst_61 ?_
        obtain ⟨hi_4, h⟩ := ob h
        refine va_iald hx hb hK hPD.1 1 1 rfl rfl hi_4 dX10_worst_62 ?_
        refine lv_imul hx hb dX10_worst_63 ?_
        refine lv_istore_n (lv' := [(2, .int ((gx (A0 0) (0 + l3)) * (gx (A0 0) (16 + l3)))), (0, .ref h0), (1, .int l1), (3, .int l3)]) hx hb dX10_worst_64 rfl hl (by decide) rfl (fun ls hl => ?_)
        refine lv_iload_n hx hb dX10_worst_65 rfl (lv_at hl 3 rfl) ?_
        refine lv_istore_n (lv' := [(1, .int l3), (2, .int ((gx (A0 0) (0 + l3)) * (gx (A0 0) (16 + l3)))), (0, .ref h0), (3, .int l3)]) hx hb dX10_worst_66 rfl hl (by decide) rfl (fun ls hl => ?_)
        refine lv_iinc (v := l3 + 1) (lv' := [(3, .int (l3 + 1)), (1, .int l3), (2, .int ((gx (A0 0) (0 + l3)) * (gx (A0 0) (16 + l3)))), (0, .ref h0)]) hx hb dX10_worst_67 hl (k := 3) rfl rfl (by decide) rfl (fun ls hl => ?_)
        refine lv_goto (tgt := 7) hx hb dX10_worst_70 (by decide) ?_
        exact hk7 l3 ((gx (A0 0) (0 + l3)) * (gx (A0 0) (16 + l3))) (l3 + 1) h _ _ _ hPD hS (lv_sub hl [3, 1, 2, 0] rfl)
      · have h := (if_neg cc1).symm.trans h
        refine lv_goto (tgt := 67) hx hb dX10_worst_43 (by decide) ?_
        refine lv_iinc (v := l3 + 1) (lv' := [(3, .int (l3 + 1)), (0, .ref h0), (1, .int l1), (2, .int l2)]) hx hb dX10_worst_67 hl (k := 3) rfl rfl (by decide) rfl (fun ls hl => ?_)
        refine lv_goto (tgt := 7) hx hb dX10_worst_70 (by decide) ?_
        exact hk7 l1 l2 (l3 + 1) h _ _ _ hPD hS (lv_sub hl [1, 2, 3, 0] rfl)
set_option maxRecDepth 100000 in
set_option maxHeartbeats 4000000 in
theorem ww_f10_worst_l7  (C0 : Cx cX10_worst 4 (some .int) RX10 p s m args meth c G DA) {h0 : Nat} {a0 : Nat → Nat} {f0 : Nat → Int32} {A0 : Nat → Nat → Int32}   {res : Int32}  : ∀ (n : Nat) (l1 : Int32) (l2 : Int32) (l3 : Int32), f10_worst_l7 f0 A0  n l1 l2 l3 = some res → ∀ (H : Heap) (locs : List Loc) (ls : Array Slot), WD G DA (wX10 G h0 a0 f0 A0) H → va_S DA s.heap H locs → lv_has ls 4 [(0, .ref h0), (1, .int l1), (2, .int l2), (3, .int l3)] → W p l e rmX10_worst s m args below meth c H locs 0 0 (MQ below (QI G DA res (wX10 G h0 a0 f0 A0)) args s 0 0 DA) (F0 m 7 ls []) := by
  intro n
  induction n with
  | zero => intro l1 l2 l3 h; cases h
  | succ n ih => intro l1 l2 l3 h; exact ww_f10_worst_b7 C0  ih l1 l2 l3 h
set_option maxRecDepth 100000 in
set_option maxHeartbeats 4000000 in
theorem kt_X10_worst (l : Launch) (G : Gp) (h0 : Nat) (a0 : Nat → Nat) (f0 : Nat → Int32) (A0 : Nat → Nat → Int32) : ∀ {r : Int32}, f10_worst f0 A0 = some r → CtrI l yX10_worst cX10_worst 4 (some .int) rmX10_worst G [.ref h0] (wX10 G h0 a0 f0 A0) r (wX10 G h0 a0 f0 A0) := by
  intro res h
  refine ctrI_of (cc := cX10_worst) (maxL := 4) (ret := (some .int)) (by decide +kernel) rfl (Nat.le_of_ble_eq_true rfl) (fun p e s m below meth c DA C0 hP hD ls hl => ?_)
  have hPD : WD G DA (wX10 G h0 a0 f0 A0) s.heap := ⟨hP, hD⟩
  have hS : va_S DA s.heap s.heap [] := va_S.rf
  have hl : lv_has ls 4 [(0, .ref h0)] := hl
  obtain ⟨hx, hb, hml, hown, hts⟩ := C0.1
  have hK := C0.2.2.2.1
  unfold f10_worst at h
  refine lv_bipush (v := (-2)) hx hb dX10_worst_0 (by decide) ?_
  refine lv_istore_n (lv' := [(1, .int (-2)), (0, .ref h0)]) hx hb dX10_worst_2 rfl hl (by decide) rfl (fun ls hl => ?_)
  refine lv_iconst (v := (-1)) hx hb dX10_worst_3 (by decide) ?_
  refine lv_istore_n (lv' := [(2, .int (-1)), (1, .int (-2)), (0, .ref h0)]) hx hb dX10_worst_4 rfl hl (by decide) rfl (fun ls hl => ?_)
  refine lv_iconst (v := 0) hx hb dX10_worst_5 (by decide) ?_
  refine lv_istore_n (lv' := [(3, .int 0), (2, .int (-1)), (1, .int (-2)), (0, .ref h0)]) hx hb dX10_worst_6 rfl hl (by decide) rfl (fun ls hl => ?_)
  exact ww_f10_worst_l7 C0 NF (-2) (-1) 0 h _ _ _ hPD hS (lv_sub hl [3, 2, 1, 0] rfl)
end WALK
