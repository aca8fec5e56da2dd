section WALK
variable {p : Program} {l : Launch} {e : Env} {s : State} {m : MethodId} {args : Array Value} {below : List Frame} {meth : Method} {c : Code} {G : Gp} {DA : Nat → Prop}
abbrev rmX10_pays : Room := { frames := 5, cells := 0, slots := 0, locals := 110 }
set_option maxRecDepth 100000 in
set_option maxHeartbeats 4000000 in
theorem ww_f10_pays_b16  (C0 : Cx cX10_pays 5 none RX10 p s m args meth c G DA) {h0 : Nat} {a0 : Nat → Nat} {p1 : Int32}  {k16 : (Nat → Nat → Int32) → (Nat → Int32) → Int32 → Int32 → Option ((Nat → Nat → Int32) × (Nat → Int32))} {res : (Nat → Nat → Int32) × (Nat → Int32)}  (hk16 : ∀ (A0 : Nat → Nat → Int32) (f0 : Nat → Int32) (l2 : Int32) (l3 : Int32), k16 A0 f0 l2 l3 = some res → ∀ (H : Heap) (locs : List Loc) (ls : Array Slot), WD G DA (wX10 G h0 a0 f0 A0) H → va_S DA s.heap H locs → lv_has ls 5 [(0, .ref h0), (1, .int p1), (2, .int l2), (3, .int l3)] → W p l e rmX10_pays s m args below meth c H locs 0 0 (MQ below (QV G DA (wX10 G h0 a0 res.2 res.1)) args s 0 0 DA) (F0 m 16 ls [])) : ∀ (A0 : Nat → Nat → Int32) (f0 : Nat → Int32) (l2 : Int32) (l3 : Int32), f10_pays_b16 p1  k16 A0 f0 l2 l3 = some res → ∀ (H : Heap) (locs : List Loc) (ls : Array Slot), WD G DA (wX10 G h0 a0 f0 A0) H → va_S DA s.heap H locs → lv_has ls 5 [(0, .ref h0), (1, .int p1), (2, .int l2), (3, .int l3)] → W p l e rmX10_pays s m args below meth c H locs 0 0 (MQ below (QV G DA (wX10 G h0 a0 res.2 res.1)) args s 0 0 DA) (F0 m 16 ls []) := by
  obtain ⟨hx, hb, hml, hown, hts⟩ := C0.1
  have hK := C0.2.2.2.1
  intro A0 f0 l2 l3 h _ _ _ hPD hS hl
  unfold f10_pays_b16 at h
  refine lv_iload_n hx hb dX10_pays_16 rfl (lv_at hl 3 rfl) ?_
  refine lv_bipush (v := 8) hx hb dX10_pays_17 (by decide) ?_
  refine lv_icmp_ge (tgt := 94) hx hb dX10_pays_19 (by decide) (fun cc1 => ?_) (fun cc1 => ?_)
  · have h := (if_pos cc1).symm.trans h
    obtain rfl := Option.some.inj h
    exact eV C0 hPD.1 hPD.2 hS dX10_pays_94
  · have h := (if_neg cc1).symm.trans h
    refine lv_aload_n hx hb dX10_pays_22 rfl (lv_at hl 0 rfl) ?_
    refine lv_iload_n hx hb dX10_pays_23 rfl (lv_at hl 1 rfl) ?_
    obtain ⟨q_3, hq_3, h⟩ := ob2 h
    refine kVI (As := [.int p1]) (rest := []) C0 (kt_X10_menAt l G h0 a0 f0 A0 p1 hq_3) gi_V_X10_241_X10_menAt (n := 1) rfl (by decide +kernel) rfl ⟨rfl, rfl, Nat.le_of_ble_eq_true rfl, Nat.le_of_ble_eq_true rfl⟩ hPD hS 0 10 rfl rfl rfl [0, 1, 2, 3, 4, 5, 6, 7, 8, 9, 10, 11, 12, 13, 14, 15, 16, 17, 18, 19, 20, 21, 22, 23, 24, 25, 26, 27, 28, 29, 30, 31, 32, 33] [] [0, 1, 2, 3, 4, 5, 6, 7, 8, 9, 10, 11, 12, 13, 14, 15, 16, 17, 18, 19, 20, 21, 22, 23, 24, 25, 26, 27, 28, 29, 30, 31, 32, 33] (wr := ([] : va_W)) (wN := (wX10 G h0 a0 f0 A0)) rfl rfl rfl rfl rfl hl.1 (Nat.le_of_ble_eq_true rfl) dX10_pays_24 (fun H locs hPD hS => ?_)
    refine lv_iload_n hx hb dX10_pays_27 rfl (lv_at hl 3 rfl) ?_
    refine kSI (As := [.int q_3, .int l3]) (rest := []) C0 (kt_X10_has l G  q_3 l3) gi_S_X10_120_X10_has (n := 2) rfl (by decide +kernel) ⟨rfl, rfl, Nat.le_of_ble_eq_true rfl, Nat.le_of_ble_eq_true rfl⟩ hPD hS [] [0, 1, 2, 3, 4, 5, 6, 7, 8, 9, 10, 11, 12, 13, 14, 15, 16, 17, 18, 19, 20, 21, 22, 23, 24, 25, 26, 27, 28, 29, 30, 31, 32, 33] [0, 1, 2, 3, 4, 5, 6, 7, 8, 9, 10, 11, 12, 13, 14, 15, 16, 17, 18, 19, 20, 21, 22, 23, 24, 25, 26, 27, 28, 29, 30, 31, 32, 33] (wr := (wX10 G h0 a0 f0 A0)) (wN := (wX10 G h0 a0 f0 A0)) rfl rfl rfl rfl rfl hl.1 (Nat.le_of_ble_eq_true rfl) dX10_pays_28 (fun H locs hPD hS => ?_)
    refine lv_if_ne (tgt := 37) hx hb dX10_pays_31 (by decide) (fun cc1 => ?_) (fun cc1 => ?_)
    · have h := (if_neg cc1).symm.trans h
      refine lv_iload_n hx hb dX10_pays_37 rfl (lv_at hl 2 rfl) ?_
      refine lv_ldcw (v := 999999) hx hb hown (hts _ gw_733) dX10_pays_38 ?_
      refine lv_aload_n hx hb dX10_pays_41 rfl (lv_at hl 0 rfl) ?_
      refine va_get (D := G.1) (ci := 10) (v := .ref (a0 0)) (C := RX10) (T := TX10) (N := 52) hx hb hts inlX10 hown hK hPD.1 0 rfl rfl 0 (by decide) (hts _ gw_536) (fun _ h9 => h9) rfl dX10_pays_42 ?_
      refine lv_bipush (v := 64) hx hb dX10_pays_45 (by decide) ?_
      refine lv_iload_n hx hb dX10_pays_47 rfl (lv_at hl 3 rfl) ?_
      refine lv_iadd hx hb dX10_pays_48 ?_
      obtain ⟨hi_4, h⟩ := ob h
      refine va_iald hx hb hK hPD.1 1 1 rfl rfl hi_4 dX10_pays_49 ?_
      refine lv_isub hx hb dX10_pays_50 ?_
      refine kSI (As := [.int l2, .int (999999 - (gx (A0 0) (64 + l3)))]) (rest := []) C0 (kt_X10_min l G  l2 (999999 - (gx (A0 0) (64 + l3)))) gi_S_X10_284_X10_min (n := 2) rfl (by decide +kernel) ⟨rfl, rfl, Nat.le_of_ble_eq_true rfl, Nat.le_of_ble_eq_true rfl⟩ hPD hS [] [0, 1, 2, 3, 4, 5, 6, 7, 8, 9, 10, 11, 12, 13, 14, 15, 16, 17, 18, 19, 20, 21, 22, 23, 24, 25, 26, 27, 28, 29, 30, 31, 32, 33] [0, 1, 2, 3, 4, 5, 6, 7, 8, 9, 10, 11, 12, 13, 14, 15, 16, 17, 18, 19, 20, 21, 22, 23, 24, 25, 26, 27, 28, 29, 30, 31, 32, 33] (wr := (wX10 G h0 a0 f0 A0)) (wN := (wX10 G h0 a0 f0 A0)) rfl rfl rfl rfl rfl hl.1 (Nat.le_of_ble_eq_true rfl) dX10_pays_51 (fun H locs hPD hS => ?_)
      refine lv_istore (lv' := [(4, .int (f10_min l2 (999999 - (gx (A0 0) (64 + l3))))), (0, .ref h0), (1, .int p1), (2, .int l2), (3, .int l3)]) hx hb dX10_pays_54 hl (by decide) rfl (fun ls hl => ?_)
      refine lv_aload_n hx hb dX10_pays_56 rfl (lv_at hl 1 rfl) ?_
      refine va_get (D := G.1) (ci := 10) (v := .ref (a0 0)) (C := RX10) (T := TX10) (N := 52) hx hb hts inlX10 hown hK hPD.1 0 rfl rfl 0 (by decide) (hts _ gw_536) (fun _ h9 => h9) rfl dX10_pays_57 ?_
      refine lv_bipush (v := 64) hx hb dX10_pays_60 (by decide) ?_
      refine lv_iload_n hx hb dX10_pays_62 rfl (lv_at hl 4 rfl) ?_
      refine lv_iadd hx hb dX10_pays_63 ?_
      refine lv_aload_n hx hb dX10_pays_64 rfl (lv_at hl 1 rfl) ?_
      refine va_get (D := G.1) (ci := 10) (v := .ref (a0 0)) (C := RX10) (T := TX10) (N := 52) hx hb hts inlX10 hown hK hPD.1 0 rfl rfl 0 (by decide) (hts _ gw_536) (fun _ h9 => h9) rfl dX10_pays_65 ?_
      refine lv_bipush (v := 64) hx hb dX10_pays_68 (by decide) ?_
      refine lv_iload_n hx hb dX10_pays_70 rfl (lv_at hl 4 rfl) ?_
      refine lv_iadd hx hb dX10_pays_71 ?_
      obtain ⟨hi_5, h⟩ := ob h
      refine va_iald hx hb hK hPD.1 1 1 rfl rfl hi_5 dX10_pays_72 ?_
      refine lv_iload hx hb dX10_pays_73 (lv_at hl 0 rfl) ?_
      refine lv_iadd hx hb dX10_pays_75 ?_
      obtain ⟨hi_6, h⟩ := ob h
      refine va_iast hx hb hK hPD.1 hPD.2 hS 1 1 rfl rfl hi_6 dX10_pays_76 (fun H locs hP hD hS => ?_)
      obtain ⟨A0_7, eA0_7, h⟩ := lvl h
      have hPD : WD G DA (wX10 G h0 a0 f0 A0_7) H := by rw [eA0_7]; exact ⟨hP, hD⟩
      clear eA0_7 hP hD
      refine lv_aload_n hx hb dX10_pays_77 rfl (lv_at hl 1 rfl) ?_
      refine lv_aload_n hx hb dX10_pays_78 rfl (lv_at hl 1 rfl) ?_
      refine va_get (D := G.1) (ci := 10) (v := .int (f0 42)) (C := RX10) (T := TX10) (N := 52) hx hb hts inlX10 hown hK hPD.1 0 rfl rfl 42 (by decide) (hts _ gw_734) (fun _ h9 => h9) rfl dX10_pays_79 ?_
      refine lv_iload hx hb dX10_pays_82 (lv_at hl 0 rfl) ?_
      refine lv_iadd hx hb dX10_pays_84 ?_
      refine va_put (D := G.1) (ci := 10) (v := .int ((f0 42) + (f10_min l2 (999999 - (gx (A0 0) (64 + l3)))))) (ty := .int) (C := RX10) (T := TX10) (N := 52) hx hb hts inlX10 tyX10 tyX10_ok nmX10 hown hK hPD.1 hPD.2 hS 0 rfl rfl 42 (by decide) (hts _ gw_734) (fun _ h9 => h9) rfl (by decide +kernel) rfl rfl (Nat.le_of_ble_eq_true rfl) dX10_pays_85 (fun H locs hP hD hS => ?_)
      obtain ⟨f0_8, ef0_8, h⟩ := lvl h
      have hPD : WD G DA (wX10 G h0 a0 f0_8 A0_7) H := by rw [ef0_8]; exact ⟨hP, hD⟩
      clear ef0_8 hP hD
      refine lv_iinc (v := l3 + 1) (lv' := [(3, .int (l3 + 1)), (4, .int (f10_min l2 (999999 - (gx (A0 0) (64 + l3))))), (0, .ref h0), (1, .int p1), (2, .int l2)]) hx hb dX10_pays_88 hl (k := 4) rfl rfl (by decide) rfl (fun ls hl => ?_)
      refine lv_goto (tgt := 16) hx hb dX10_pays_91 (by decide) ?_
      exact hk16 A0_7 f0_8 l2 (l3 + 1) h _ _ _ hPD hS (lv_sub hl [2, 3, 4, 0] rfl)
    · have h := (if_pos cc1).symm.trans h
      refine lv_goto (tgt := 88) hx hb dX10_pays_34 (by decide) ?_
      refine lv_iinc (v := l3 + 1) (lv' := [(3, .int (l3 + 1)), (0, .ref h0), (1, .int p1), (2, .int l2)]) hx hb dX10_pays_88 hl (k := 3) rfl rfl (by decide) rfl (fun ls hl => ?_)
      refine lv_goto (tgt := 16) hx hb dX10_pays_91 (by decide) ?_
      exact hk16 A0 f0 l2 (l3 + 1) h _ _ _ hPD hS (lv_sub hl [1, 2, 3, 0] rfl)
set_option maxRecDepth 100000 in
set_option maxHeartbeats 4000000 in
theorem ww_f10_pays_l16  (C0 : Cx cX10_pays 5 none RX10 p s m args meth c G DA) {h0 : Nat} {a0 : Nat → Nat} {p1 : Int32}   {res : (Nat → Nat → Int32) × (Nat → Int32)}  : ∀ (n : Nat) (A0 : Nat → Nat → Int32) (f0 : Nat → Int32) (l2 : Int32) (l3 : Int32), f10_pays_l16 p1  n A0 f0 l2 l3 = some res → ∀ (H : Heap) (locs : List Loc) (ls : Array Slot), WD G DA (wX10 G h0 a0 f0 A0) H → va_S DA s.heap H locs → lv_has ls 5 [(0, .ref h0), (1, .int p1), (2, .int l2), (3, .int l3)] → W p l e rmX10_pays s m args below meth c H locs 0 0 (MQ below (QV G DA (wX10 G h0 a0 res.2 res.1)) args s 0 0 DA) (F0 m 16 ls []) := by
  intro n
  induction n with
  | zero => intro A0 f0 l2 l3 h; cases h
  | succ n ih => intro A0 f0 l2 l3 h; exact ww_f10_pays_b16 C0  ih A0 f0 l2 l3 h
set_option maxRecDepth 100000 in
set_option maxHeartbeats 4000000 in
theorem kt_X10_pays (l : Launch) (G : Gp) (h0 : Nat) (a0 : Nat → Nat) (f0 : Nat → Int32) (A0 : Nat → Nat → Int32) (p1 : Int32) : ∀ {r : (Nat → Nat → Int32) × (Nat → Int32)}, f10_pays f0 A0 p1 = some r → CtrV l yX10_pays cX10_pays 5 none rmX10_pays G [.ref h0, .int p1] (wX10 G h0 a0 f0 A0) (wX10 G h0 a0 r.2 r.1) := by
  intro res h
  refine ctrV_of (cc := cX10_pays) (maxL := 5) (ret := none) (by decide +kernel) rfl (Nat.le_of_ble_eq_true rfl) (fun p e s m below meth c DA C0 hP hD ls hl => ?_)
  have hPD : WD G DA (wX10 G h0 a0 f0 A0) s.heap := ⟨hP, hD⟩
  have hS : va_S DA s.heap s.heap [] := va_S.rf
  have hl : lv_has ls 5 [(0, .ref h0), (1, .int p1)] := hl
  obtain ⟨hx, hb, hml, hown, hts⟩ := C0.1
  have hK := C0.2.2.2.1
  unfold f10_pays at h
  refine lv_aload_n hx hb dX10_pays_0 rfl (lv_at hl 0 rfl) ?_
  refine lv_iload_n hx hb dX10_pays_1 rfl (lv_at hl 1 rfl) ?_
  obtain ⟨q_1, hq_1, h⟩ := ob2 h
  refine kVV (As := [.int p1]) (rest := []) C0 (kt_X10_feels l G h0 a0 f0 A0 p1 hq_1) gi_V_X10_297_X10_feels (n := 1) rfl (by decide +kernel) rfl ⟨rfl, rfl, Nat.le_of_ble_eq_true rfl, Nat.le_of_ble_eq_true rfl⟩ hPD hS 0 10 rfl rfl rfl [0, 1, 2, 3, 4, 5, 6, 7, 8, 9, 10, 11, 12, 13, 14, 15, 16, 17, 18, 19, 20, 21, 22, 23, 24, 25, 26, 27, 28, 29, 30, 31, 32, 33] [] [0, 1, 2, 3, 4, 5, 6, 7, 8, 9, 10, 11, 12, 13, 14, 15, 16, 17, 18, 19, 20, 21, 22, 23, 24, 25, 26, 27, 28, 29, 30, 31, 32, 33] (wr := ([] : va_W)) (wN := (wX10 G h0 a0 f0 q_1)) rfl rfl rfl rfl rfl hl.1 (Nat.le_of_ble_eq_true rfl) dX10_pays_2 (fun H locs hPD hS => ?_)
  refine lv_aload_n hx hb dX10_pays_5 rfl (lv_at hl 0 rfl) ?_
  refine lv_bipush (v := 119) hx hb dX10_pays_6 (by decide) ?_
  refine lv_bipush (v := 99) hx hb dX10_pays_8 (by decide) ?_
  obtain ⟨q_2, hq_2, h⟩ := ob2 h
  refine kVI (As := [.int 119, .int 99]) (rest := []) C0 (kt_X10_byLaw l G h0 a0 f0 q_1 119 99 hq_2) gi_V_X10_300_X10_byLaw (n := 2) rfl (by decide +kernel) rfl ⟨rfl, rfl, Nat.le_of_ble_eq_true rfl, Nat.le_of_ble_eq_true rfl⟩ hPD hS 0 10 rfl rfl rfl [0, 1, 2, 3, 4, 5, 6, 7, 8, 9, 10, 11, 12, 13, 14, 15, 16, 17, 18, 19, 20, 21, 22, 23, 24, 25, 26, 27, 28, 29, 30, 31, 32, 33] [] [0, 1, 2, 3, 4, 5, 6, 7, 8, 9, 10, 11, 12, 13, 14, 15, 16, 17, 18, 19, 20, 21, 22, 23, 24, 25, 26, 27, 28, 29, 30, 31, 32, 33] (wr := ([] : va_W)) (wN := (wX10 G h0 a0 f0 q_2.2)) rfl rfl rfl rfl rfl hl.1 (Nat.le_of_ble_eq_true rfl) dX10_pays_10 (fun H locs hPD hS => ?_)
  refine lv_istore_n (lv' := [(2, .int q_2.1), (0, .ref h0), (1, .int p1)]) hx hb dX10_pays_13 rfl hl (by decide) rfl (fun ls hl => ?_)
  refine lv_iconst (v := 0) hx hb dX10_pays_14 (by decide) ?_
  refine lv_istore_n (lv' := [(3, .int 0), (2, .int q_2.1), (0, .ref h0), (1, .int p1)]) hx hb dX10_pays_15 rfl hl (by decide) rfl (fun ls hl => ?_)
  exact ww_f10_pays_l16 C0 NF q_2.2 f0 q_2.1 0 h _ _ _ hPD hS (lv_sub hl [2, 3, 1, 0] rfl)
abbrev rmX10_turnOf : Room := { frames := 6, cells := 0, slots := 0, locals := 134 }
set_option maxRecDepth 100000 in
set_option maxHeartbeats 4000000 in
theorem kt_X10_turnOf (l : Launch) (G : Gp) (h0 : Nat) (a0 : Nat → Nat) (f0 : Nat → Int32) (A0 : Nat → Nat → Int32) (p1 : Int32) : ∀ {r : (Nat → Nat → Int32) × (Nat → Int32)}, f10_turnOf f0 A0 p1 = some r → CtrV l yX10_turnOf cX10_turnOf 3 none rmX10_turnOf G [.ref h0, .int p1] (wX10 G h0 a0 f0 A0) (wX10 G h0 a0 r.2 r.1) := by
  intro res h
  refine ctrV_of (cc := cX10_turnOf) (maxL := 3) (ret := none) (by decide +kernel) rfl (Nat.le_of_ble_eq_true rfl) (fun p e s m below meth c DA C0 hP hD ls hl => ?_)
  have hPD : WD G DA (wX10 G h0 a0 f0 A0) s.heap := ⟨hP, hD⟩
  have hS : va_S DA s.heap s.heap [] := va_S.rf
  have hl : lv_has ls 3 [(0, .ref h0), (1, .int p1)] := hl
  obtain ⟨hx, hb, hml, hown, hts⟩ := C0.1
  have hK := C0.2.2.2.1
  unfold f10_turnOf at h
  refine lv_aload_n hx hb dX10_turnOf_0 rfl (lv_at hl 0 rfl) ?_
  refine lv_iload_n hx hb dX10_turnOf_1 rfl (lv_at hl 1 rfl) ?_
  obtain ⟨q_1, hq_1, h⟩ := ob2 h
  refine kVV (As := [.int p1]) (rest := []) C0 (kt_X10_feels l G h0 a0 f0 A0 p1 hq_1) gi_V_X10_297_X10_feels (n := 1) rfl (by decide +kernel) rfl ⟨rfl, rfl, Nat.le_of_ble_eq_true rfl, Nat.le_of_ble_eq_true rfl⟩ hPD hS 0 10 rfl rfl rfl [0, 1, 2, 3, 4, 5, 6, 7, 8, 9, 10, 11, 12, 13, 14, 15, 16, 17, 18, 19, 20, 21, 22, 23, 24, 25, 26, 27, 28, 29, 30, 31, 32, 33] [] [0, 1, 2, 3, 4, 5, 6, 7, 8, 9, 10, 11, 12, 13, 14, 15, 16, 17, 18, 19, 20, 21, 22, 23, 24, 25, 26, 27, 28, 29, 30, 31, 32, 33] (wr := ([] : va_W)) (wN := (wX10 G h0 a0 f0 q_1)) rfl rfl rfl rfl rfl hl.1 (Nat.le_of_ble_eq_true rfl) dX10_turnOf_2 (fun H locs hPD hS => ?_)
  refine lv_aload_n hx hb dX10_turnOf_5 rfl (lv_at hl 0 rfl) ?_
  refine lv_bipush (v := 115) hx hb dX10_turnOf_6 (by decide) ?_
  obtain ⟨q_2, hq_2, h⟩ := ob2 h
  refine kVI (As := [.int 115]) (rest := []) C0 (kt_X10_holdsAny l G h0 a0 f0 q_1 115 hq_2) gi_V_X10_307_X10_holdsAny (n := 1) rfl (by decide +kernel) rfl ⟨rfl, rfl, Nat.le_of_ble_eq_true rfl, Nat.le_of_ble_eq_true rfl⟩ hPD hS 0 10 rfl rfl rfl [0, 1, 2, 3, 4, 5, 6, 7, 8, 9, 10, 11, 12, 13, 14, 15, 16, 17, 18, 19, 20, 21, 22, 23, 24, 25, 26, 27, 28, 29, 30, 31, 32, 33] [] [0, 1, 2, 3, 4, 5, 6, 7, 8, 9, 10, 11, 12, 13, 14, 15, 16, 17, 18, 19, 20, 21, 22, 23, 24, 25, 26, 27, 28, 29, 30, 31, 32, 33] (wr := ([] : va_W)) (wN := (wX10 G h0 a0 f0 q_2.2)) rfl rfl rfl rfl rfl hl.1 (Nat.le_of_ble_eq_true rfl) dX10_turnOf_8 (fun H locs hPD hS => ?_)
  refine lv_if_eq (tgt := 15) hx hb dX10_turnOf_11 (by decide) (fun cc1 => ?_) (fun cc1 => ?_)
  · have h := (if_pos cc1).symm.trans h
    refine lv_aload_n hx hb dX10_turnOf_15 rfl (lv_at hl 0 rfl) ?_
    refine lv_bipush (v := 114) hx hb dX10_turnOf_16 (by decide) ?_
    refine lv_bipush (v := 10) hx hb dX10_turnOf_18 (by decide) ?_
    obtain ⟨q_3, hq_3, h⟩ := ob2 h
    refine kVI (As := [.int 114, .int 10]) (rest := []) C0 (kt_X10_byLaw l G h0 a0 f0 q_2.2 114 10 hq_3) gi_V_X10_300_X10_byLaw (n := 2) rfl (by decide +kernel) rfl ⟨rfl, rfl, Nat.le_of_ble_eq_true rfl, Nat.le_of_ble_eq_true rfl⟩ hPD hS 0 10 rfl rfl rfl [0, 1, 2, 3, 4, 5, 6, 7, 8, 9, 10, 11, 12, 13, 14, 15, 16, 17, 18, 19, 20, 21, 22, 23, 24, 25, 26, 27, 28, 29, 30, 31, 32, 33] [] [0, 1, 2, 3, 4, 5, 6, 7, 8, 9, 10, 11, 12, 13, 14, 15, 16, 17, 18, 19, 20, 21, 22, 23, 24, 25, 26, 27, 28, 29, 30, 31, 32, 33] (wr := ([] : va_W)) (wN := (wX10 G h0 a0 f0 q_3.2)) rfl rfl rfl rfl rfl hl.1 (Nat.le_of_ble_eq_true rfl) dX10_turnOf_20 (fun H locs hPD hS => ?_)
    refine lv_istore_n (lv' := [(2, .int q_3.1), (0, .ref h0), (1, .int p1)]) hx hb dX10_turnOf_23 rfl hl (by decide) rfl (fun ls hl => ?_)
    refine lv_aload_n hx hb dX10_turnOf_24 rfl (lv_at hl 1 rfl) ?_
    refine va_get (D := G.1) (ci := 10) (v := .ref (a0 0)) (C := RX10) (T := TX10) (N := 52) hx hb hts inlX10 hown hK hPD.1 0 rfl rfl 0 (by decide) (hts _ gw_536) (fun _ h9 => h9) rfl dX10_turnOf_25 ?_
    refine lv_bipush (v := 75) hx hb dX10_turnOf_28 (by decide) ?_
    refine lv_sipush (v := 25173) hx hb dX10_turnOf_30 (by decide) ?_
    refine lv_aload_n hx hb dX10_turnOf_33 rfl (lv_at hl 1 rfl) ?_
    refine va_get (D := G.1) (ci := 10) (v := .ref (a0 0)) (C := RX10) (T := TX10) (N := 52) hx hb hts inlX10 hown hK hPD.1 0 rfl rfl 0 (by decide) (hts _ gw_536) (fun _ h9 => h9) rfl dX10_turnOf_34 ?_
    refine lv_bipush (v := 75) hx hb dX10_turnOf_37 (by decide) ?_
    refine va_iald hx hb hK hPD.1 1 1 rfl rfl (vin rfl) dX10_turnOf_39 ?_
    refine lv_imul hx hb dX10_turnOf_40 ?_
    refine lv_sipush (v := 13849) hx hb dX10_turnOf_41 (by decide) ?_
    refine lv_iadd hx hb dX10_turnOf_44 ?_
    refine lv_ldcw (v := 65536) hx hb hown (hts _ gw_739) dX10_turnOf_45 ?_
    refine lv_irem hx hb dX10_turnOf_48 (by decide) ?_
    refine va_iast hx hb hK hPD.1 hPD.2 hS 1 1 rfl rfl (vin rfl) dX10_turnOf_49 (fun H locs hP hD hS => ?_)
    obtain ⟨A0_4, eA0_4, h⟩ := lvl h
    have hPD : WD G DA (wX10 G h0 a0 f0 A0_4) H := by rw [eA0_4]; exact ⟨hP, hD⟩
    clear eA0_4 hP hD
    refine lv_aload_n hx hb dX10_turnOf_50 rfl (lv_at hl 1 rfl) ?_
    refine lv_iload_n hx hb dX10_turnOf_51 rfl (lv_at hl 2 rfl) ?_
    obtain ⟨q_5, hq_5, h⟩ := ob2 h
    refine kVI (As := [.int p1]) (rest := []) C0 (kt_X10_menAt l G h0 a0 f0 A0_4 p1 hq_5) gi_V_X10_241_X10_menAt (n := 1) rfl (by decide +kernel) rfl ⟨rfl, rfl, Nat.le_of_ble_eq_true rfl, Nat.le_of_ble_eq_true rfl⟩ hPD hS 0 10 rfl rfl rfl [0, 1, 2, 3, 4, 5, 6, 7, 8, 9, 10, 11, 12, 13, 14, 15, 16, 17, 18, 19, 20, 21, 22, 23, 24, 25, 26, 27, 28, 29, 30, 31, 32, 33] [] [0, 1, 2, 3, 4, 5, 6, 7, 8, 9, 10, 11, 12, 13, 14, 15, 16, 17, 18, 19, 20, 21, 22, 23, 24, 25, 26, 27, 28, 29, 30, 31, 32, 33] (wr := ([] : va_W)) (wN := (wX10 G h0 a0 f0 A0_4)) rfl rfl rfl rfl rfl hl.1 (Nat.le_of_ble_eq_true rfl) dX10_turnOf_52 (fun H locs hPD hS => ?_)
    refine lv_if_eq (tgt := 66) hx hb dX10_turnOf_55 (by decide) (fun cc1 => ?_) (fun cc1 => ?_)
    · have h := (if_pos cc1).symm.trans h
      refine lv_aload_n hx hb dX10_turnOf_66 rfl (lv_at hl 1 rfl) ?_
      refine va_get (D := G.1) (ci := 10) (v := .ref (a0 0)) (C := RX10) (T := TX10) (N := 52) hx hb hts inlX10 hown hK hPD.1 0 rfl rfl 0 (by decide) (hts _ gw_536) (fun _ h9 => h9) rfl dX10_turnOf_67 ?_
      refine lv_bipush (v := 75) hx hb dX10_turnOf_70 (by decide) ?_
      refine va_iald hx hb hK hPD.1 1 1 rfl rfl (vin rfl) dX10_turnOf_72 ?_
      refine lv_bipush (v := 10) hx hb dX10_turnOf_73 (by decide) ?_
      refine lv_irem hx hb dX10_turnOf_75 (by decide) ?_
      refine lv_iload_n hx hb dX10_turnOf_76 rfl (lv_at hl 0 rfl) ?_
      refine lv_icmp_ge (tgt := 142) hx hb dX10_turnOf_77 (by decide) (fun cc1 => ?_) (fun cc1 => ?_)
      · have h := (if_pos cc1).symm.trans h
        obtain rfl := Option.some.inj h
        exact eV C0 hPD.1 hPD.2 hS dX10_turnOf_142
      · have h := (if_neg cc1).symm.trans h
        refine lv_aload_n hx hb dX10_turnOf_80 rfl (lv_at hl 1 rfl) ?_
        refine va_get (D := G.1) (ci := 10) (v := .ref (a0 0)) (C := RX10) (T := TX10) (N := 52) hx hb hts inlX10 hown hK hPD.1 0 rfl rfl 0 (by decide) (hts _ gw_536) (fun _ h9 => h9) rfl dX10_turnOf_81 ?_
        refine lv_bipush (v := 73) hx hb dX10_turnOf_84 (by decide) ?_
        refine lv_sipush (v := 9999) hx hb dX10_turnOf_86 (by decide) ?_
        refine lv_aload_n hx hb dX10_turnOf_89 rfl (lv_at hl 1 rfl) ?_
        refine va_get (D := G.1) (ci := 10) (v := .ref (a0 0)) (C := RX10) (T := TX10) (N := 52) hx hb hts inlX10 hown hK hPD.1 0 rfl rfl 0 (by decide) (hts _ gw_536) (fun _ h9 => h9) rfl dX10_turnOf_90 ?_
        refine lv_bipush (v := 73) hx hb dX10_turnOf_93 (by decide) ?_
        refine va_iald hx hb hK hPD.1 1 1 rfl rfl (vin rfl) dX10_turnOf_95 ?_
        refine lv_iconst (v := 1) hx hb dX10_turnOf_96 (by decide) ?_
        refine lv_iadd hx hb dX10_turnOf_97 ?_
        refine kSI (As := [.int 9999, .int ((gx (A0_4 0) 73) + 1)]) (rest := [.int 73, .ref (a0 0)]) C0 (kt_X10_min l G  9999 ((gx (A0_4 0) 73) + 1)) gi_S_X10_284_X10_min (n := 2) rfl (by decide +kernel) ⟨rfl, rfl, Nat.le_of_ble_eq_true rfl, Nat.le_of_ble_eq_true rfl⟩ hPD hS [] [0, 1, 2, 3, 4, 5, 6, 7, 8, 9, 10, 11, 12, 13, 14, 15, 16, 17, 18, 19, 20, 21, 22, 23, 24, 25, 26, 27, 28, 29, 30, 31, 32, 33] [0, 1, 2, 3, 4, 5, 6, 7, 8, 9, 10, 11, 12, 13, 14, 15, 16, 17, 18, 19, 20, 21, 22, 23, 24, 25, 26, 27, 28, 29, 30, 31, 32, 33] (wr := (wX10 G h0 a0 f0 A0_4)) (wN := (wX10 G h0 a0 f0 A0_4)) rfl rfl rfl rfl rfl hl.1 (Nat.le_of_ble_eq_true rfl) dX10_turnOf_98 (fun H locs hPD hS => ?_)
        refine va_iast hx hb hK hPD.1 hPD.2 hS 1 1 rfl rfl (vin rfl) dX10_turnOf_101 (fun H locs hP hD hS => ?_)
        obtain ⟨A0_6, eA0_6, h⟩ := lvl h
        have hPD : WD G DA (wX10 G h0 a0 f0 A0_6) H := by rw [eA0_6]; exact ⟨hP, hD⟩
        clear eA0_6 hP hD
        refine lv_aload_n hx hb dX10_turnOf_102 rfl (lv_at hl 1 rfl) ?_
        refine va_get (D := G.1) (ci := 10) (v := .ref (a0 0)) (C := RX10) (T := TX10) (N := 52) hx hb hts inlX10 hown hK hPD.1 0 rfl rfl 0 (by decide) (hts _ gw_536) (fun _ h9 => h9) rfl dX10_turnOf_103 ?_
        refine lv_bipush (v := 72) hx hb dX10_turnOf_106 (by decide) ?_
        refine lv_ldcw (v := 999999) hx hb hown (hts _ gw_733) dX10_turnOf_108 ?_
        refine lv_aload_n hx hb dX10_turnOf_111 rfl (lv_at hl 1 rfl) ?_
        refine va_get (D := G.1) (ci := 10) (v := .ref (a0 0)) (C := RX10) (T := TX10) (N := 52) hx hb hts inlX10 hown hK hPD.1 0 rfl rfl 0 (by decide) (hts _ gw_536) (fun _ h9 => h9) rfl dX10_turnOf_112 ?_
        refine lv_bipush (v := 72) hx hb dX10_turnOf_115 (by decide) ?_
        refine va_iald hx hb hK hPD.1 1 1 rfl rfl (vin rfl) dX10_turnOf_117 ?_
        refine lv_aload_n hx hb dX10_turnOf_118 rfl (lv_at hl 1 rfl) ?_
        refine va_get (D := G.1) (ci := 10) (v := .ref (a0 0)) (C := RX10) (T := TX10) (N := 52) hx hb hts inlX10 hown hK hPD.1 0 rfl rfl 0 (by decide) (hts _ gw_536) (fun _ h9 => h9) rfl dX10_turnOf_119 ?_
        refine lv_bipush (v := 16) hx hb dX10_turnOf_122 (by decide) ?_
        refine lv_iload_n hx hb dX10_turnOf_124 rfl (lv_at hl 2 rfl) ?_
        refine lv_iadd hx hb dX10_turnOf_125 ?_
        obtain ⟨hi_7, h⟩ := ob h
        refine va_iald hx hb hK hPD.1 1 1 rfl rfl hi_7 dX10_turnOf_126 ?_
        refine lv_iadd hx hb dX10_turnOf_127 ?_
        refine kSI (As := [.int 999999, .int ((gx (A0_6 0) 72) + (gx (A0_6 0) (16 + p1)))]) (rest := [.int 72, .ref (a0 0)]) C0 (kt_X10_min l G  999999 ((gx (A0_6 0) 72) + (gx (A0_6 0) (16 + p1)))) gi_S_X10_284_X10_min (n := 2) rfl (by decide +kernel) ⟨rfl, rfl, Nat.le_of_ble_eq_true rfl, Nat.le_of_ble_eq_true rfl⟩ hPD hS [] [0, 1, 2, 3, 4, 5, 6, 7, 8, 9, 10, 11, 12, 13, 14, 15, 16, 17, 18, 19, 20, 21, 22, 23, 24, 25, 26, 27, 28, 29, 30, 31, 32, 33] [0, 1, 2, 3, 4, 5, 6, 7, 8, 9, 10, 11, 12, 13, 14, 15, 16, 17, 18, 19, 20, 21, 22, 23, 24, 25, 26, 27, 28, 29, 30, 31, 32, 33] (wr := (wX10 G h0 a0 f0 A0_6)) (wN := (wX10 G h0 a0 f0 A0_6)) rfl rfl rfl rfl rfl hl.1 (Nat.le_of_ble_eq_true rfl) dX10_turnOf_128 (fun H locs hPD hS => ?_)
        refine va_iast hx hb hK hPD.1 hPD.2 hS 1 1 rfl rfl (vin rfl) dX10_turnOf_131 (fun H locs hP hD hS => ?_)
        obtain ⟨A0_8, eA0_8, h⟩ := lvl h
        have hPD : WD G DA (wX10 G h0 a0 f0 A0_8) H := by rw [eA0_8]; exact ⟨hP, hD⟩
        clear eA0_8 hP hD
        refine lv_aload_n hx hb dX10_turnOf_132 rfl (lv_at hl 1 rfl) ?_
        refine lv_aload_n hx hb dX10_turnOf_133 rfl (lv_at hl 1 rfl) ?_
        refine va_get (D := G.1) (ci := 10) (v := .int (f0 41)) (C := RX10) (T := TX10) (N := 52) hx hb hts inlX10 hown hK hPD.1 0 rfl rfl 41 (by decide) (hts _ gw_740) (fun _ h9 => h9) rfl dX10_turnOf_134 ?_
        refine lv_iconst (v := 1) hx hb dX10_turnOf_137 (by decide) ?_
        refine lv_iadd hx hb dX10_turnOf_138 ?_
        refine va_put (D := G.1) (ci := 10) (v := .int ((f0 41) + 1)) (ty := .int) (C := RX10) (T := TX10) (N := 52) hx hb hts inlX10 tyX10 tyX10_ok nmX10 hown hK hPD.1 hPD.2 hS 0 rfl rfl 41 (by decide) (hts _ gw_740) (fun _ h9 => h9) rfl (by decide +kernel) rfl rfl (Nat.le_of_ble_eq_true rfl) dX10_turnOf_139 (fun H locs hP hD hS => ?_)
        obtain ⟨f0_9, ef0_9, h⟩ := lvl h
        have hPD : WD G DA (wX10 G h0 a0 f0_9 A0_8) H := by rw [ef0_9]; exact ⟨hP, hD⟩
        clear ef0_9 hP hD
        obtain rfl := Option.some.inj h
        exact eV C0 hPD.1 hPD.2 hS dX10_turnOf_142
    · have h := (if_neg cc1).symm.trans h
      refine lv_aload_n hx hb dX10_turnOf_58 rfl (lv_at hl 1 rfl) ?_
      refine lv_iload_n hx hb dX10_turnOf_59 rfl (lv_at hl 2 rfl) ?_
      obtain ⟨q_10, hq_10, h⟩ := ob2 h
      refine kVV (As := [.int p1]) (rest := []) C0 (kt_X10_pays l G h0 a0 f0 A0_4 p1 hq_10) gi_V_X10_311_X10_pays (n := 1) rfl (by decide +kernel) rfl ⟨rfl, rfl, Nat.le_of_ble_eq_true rfl, Nat.le_of_ble_eq_true rfl⟩ hPD hS 0 10 rfl rfl rfl [0, 1, 2, 3, 4, 5, 6, 7, 8, 9, 10, 11, 12, 13, 14, 15, 16, 17, 18, 19, 20, 21, 22, 23, 24, 25, 26, 27, 28, 29, 30, 31, 32, 33] [] [0, 1, 2, 3, 4, 5, 6, 7, 8, 9, 10, 11, 12, 13, 14, 15, 16, 17, 18, 19, 20, 21, 22, 23, 24, 25, 26, 27, 28, 29, 30, 31, 32, 33] (wr := ([] : va_W)) (wN := (wX10 G h0 a0 q_10.2 q_10.1)) rfl rfl rfl rfl rfl hl.1 (Nat.le_of_ble_eq_true rfl) dX10_turnOf_60 (fun H locs hPD hS => ?_)
      refine lv_goto (tgt := 142) hx hb dX10_turnOf_63 (by decide) ?_
      obtain rfl := Option.some.inj h
      exact eV C0 hPD.1 hPD.2 hS dX10_turnOf_142
  · have h := (if_neg cc1).symm.trans h
    obtain rfl := Option.some.inj h
    exact eV C0 hPD.1 hPD.2 hS dX10_turnOf_14
abbrev rmX10_hourGoes : Room := { frames := 7, cells := 0, slots := 0, locals := 156 }
set_option maxRecDepth 100000 in
set_option maxHeartbeats 4000000 in
theorem ww_f10_hourGoes_b80  (C0 : Cx cX10_hourGoes 2 none RX10 p s m args meth c G DA) {h0 : Nat} {a0 : Nat → Nat}  {k80 : (Nat → Nat → Int32) → (Nat → Int32) → Int32 → Option ((Nat → Nat → Int32) × (Nat → Int32))} {res : (Nat → Nat → Int32) × (Nat → Int32)}  (hk80 : ∀ (A0 : Nat → Nat → Int32) (f0 : Nat → Int32) (l1 : Int32), k80 A0 f0 l1 = some res → ∀ (H : Heap) (locs : List Loc) (ls : Array Slot), WD G DA (wX10 G h0 a0 f0 A0) H → va_S DA s.heap H locs → lv_has ls 2 [(0, .ref h0), (1, .int l1)] → W p l e rmX10_hourGoes s m args below meth c H locs 0 0 (MQ below (QV G DA (wX10 G h0 a0 res.2 res.1)) args s 0 0 DA) (F0 m 80 ls [])) : ∀ (A0 : Nat → Nat → Int32) (f0 : Nat → Int32) (l1 : Int32), f10_hourGoes_b80   k80 A0 f0 l1 = some res → ∀ (H : Heap) (locs : List Loc) (ls : Array Slot), WD G DA (wX10 G h0 a0 f0 A0) H → va_S DA s.heap H locs → lv_has ls 2 [(0, .ref h0), (1, .int l1)] → W p l e rmX10_hourGoes s m args below meth c H locs 0 0 (MQ below (QV G DA (wX10 G h0 a0 res.2 res.1)) args s 0 0 DA) (F0 m 80 ls []) := by
  obtain ⟨hx, hb, hml, hown, hts⟩ := C0.1
  have hK := C0.2.2.2.1
  intro A0 f0 l1 h _ _ _ hPD hS hl
  unfold f10_hourGoes_b80 at h
  refine lv_iload_n hx hb dX10_hourGoes_80 rfl (lv_at hl 1 rfl) ?_
  refine lv_bipush (v := 16) hx hb dX10_hourGoes_81 (by decide) ?_
  refine lv_icmp_ge (tgt := 105) hx hb dX10_hourGoes_83 (by decide) (fun cc1 => ?_) (fun cc1 => ?_)
  · have h := (if_pos cc1).symm.trans h
    refine lv_aload_n hx hb dX10_hourGoes_105 rfl (lv_at hl 0 rfl) ?_
    refine va_get (D := G.1) (ci := 10) (v := .ref (a0 0)) (C := RX10) (T := TX10) (N := 52) hx hb hts inlX10 hown hK hPD.1 0 rfl rfl 0 (by decide) (hts _ gw_536) (fun _ h9 => h9) rfl dX10_hourGoes_106 ?_
    refine lv_bipush (v := 74) hx hb dX10_hourGoes_109 (by decide) ?_
    refine lv_aload_n hx hb dX10_hourGoes_111 rfl (lv_at hl 0 rfl) ?_
    refine va_get (D := G.1) (ci := 10) (v := .ref (a0 0)) (C := RX10) (T := TX10) (N := 52) hx hb hts inlX10 hown hK hPD.1 0 rfl rfl 0 (by decide) (hts _ gw_536) (fun _ h9 => h9) rfl dX10_hourGoes_112 ?_
    refine lv_bipush (v := 74) hx hb dX10_hourGoes_115 (by decide) ?_
    refine va_iald hx hb hK hPD.1 1 1 rfl rfl (vin rfl) dX10_hourGoes_117 ?_
    refine lv_iconst (v := 1) hx hb dX10_hourGoes_118 (by decide) ?_
    refine lv_iadd hx hb dX10_hourGoes_119 ?_
    refine va_iast hx hb hK hPD.1 hPD.2 hS 1 1 rfl rfl (vin rfl) dX10_hourGoes_120 (fun H locs hP hD hS => ?_)
    obtain ⟨A0_1, eA0_1, h⟩ := lvl h
    have hPD : WD G DA (wX10 G h0 a0 f0 A0_1) H := by rw [eA0_1]; exact ⟨hP, hD⟩
    clear eA0_1 hP hD
    obtain rfl := Option.some.inj h
    exact eV C0 hPD.1 hPD.2 hS dX10_hourGoes_121
  · have h := (if_neg cc1).symm.trans h
    refine lv_aload_n hx hb dX10_hourGoes_86 rfl (lv_at hl 0 rfl) ?_
    refine lv_iload_n hx hb dX10_hourGoes_87 rfl (lv_at hl 1 rfl) ?_
    refine kVI (As := [.int l1]) (rest := []) C0 (kt_X10_isTold l G h0 a0 f0 A0 l1) gi_V_X10_128_X10_isTold (n := 1) rfl (by decide +kernel) rfl ⟨rfl, rfl, Nat.le_of_ble_eq_true rfl, Nat.le_of_ble_eq_true rfl⟩ hPD hS 0 10 rfl rfl rfl [0, 1, 2, 3, 4, 5, 6, 7, 8, 9, 10, 11, 12, 13, 14, 15, 16, 17, 18, 19, 20, 21, 22, 23, 24, 25, 26, 27, 28, 29, 30, 31, 32, 33] [] [0, 1, 2, 3, 4, 5, 6, 7, 8, 9, 10, 11, 12, 13, 14, 15, 16, 17, 18, 19, 20, 21, 22, 23, 24, 25, 26, 27, 28, 29, 30, 31, 32, 33] (wr := ([] : va_W)) (wN := (wX10 G h0 a0 f0 A0)) rfl rfl rfl rfl rfl hl.1 (Nat.le_of_ble_eq_true rfl) dX10_hourGoes_88 (fun H locs hPD hS => ?_)
    refine lv_if_eq (tgt := 99) hx hb dX10_hourGoes_91 (by decide) (fun cc1 => ?_) (fun cc1 => ?_)
    · have h := (if_pos cc1).symm.trans h
      refine lv_iinc (v := l1 + 1) (lv' := [(1, .int (l1 + 1)), (0, .ref h0)]) hx hb dX10_hourGoes_99 hl (k := 1) rfl rfl (by decide) rfl (fun ls hl => ?_)
      refine lv_goto (tgt := 80) hx hb dX10_hourGoes_102 (by decide) ?_
      exact hk80 A0 f0 (l1 + 1) h _ _ _ hPD hS (lv_sub hl [1, 0] rfl)
    · have h := (if_neg cc1).symm.trans h
      refine lv_aload_n hx hb dX10_hourGoes_94 rfl (lv_at hl 0 rfl) ?_
      refine lv_iload_n hx hb dX10_hourGoes_95 rfl (lv_at hl 1 rfl) ?_
      obtain ⟨q_2, hq_2, h⟩ := ob2 h
      refine kVV (As := [.int l1]) (rest := []) C0 (kt_X10_turnOf l G h0 a0 f0 A0 l1 hq_2) gi_V_X10_320_X10_turnOf (n := 1) rfl (by decide +kernel) rfl ⟨rfl, rfl, Nat.le_of_ble_eq_true rfl, Nat.le_of_ble_eq_true rfl⟩ hPD hS 0 10 rfl rfl rfl [0, 1, 2, 3, 4, 5, 6, 7, 8, 9, 10, 11, 12, 13, 14, 15, 16, 17, 18, 19, 20, 21, 22, 23, 24, 25, 26, 27, 28, 29, 30, 31, 32, 33] [] [0, 1, 2, 3, 4, 5, 6, 7, 8, 9, 10, 11, 12, 13, 14, 15, 16, 17, 18, 19, 20, 21, 22, 23, 24, 25, 26, 27, 28, 29, 30, 31, 32, 33] (wr := ([] : va_W)) (wN := (wX10 G h0 a0 q_2.2 q_2.1)) rfl rfl rfl rfl rfl hl.1 (Nat.le_of_ble_eq_true rfl) dX10_hourGoes_96 (fun H locs hPD hS => ?_)
      refine lv_iinc (v := l1 + 1) (lv' := [(1, .int (l1 + 1)), (0, .ref h0)]) hx hb dX10_hourGoes_99 hl (k := 1) rfl rfl (by decide) rfl (fun ls hl => ?_)
      refine lv_goto (tgt := 80) hx hb dX10_hourGoes_102 (by decide) ?_
      exact hk80 q_2.1 q_2.2 (l1 + 1) h _ _ _ hPD hS (lv_sub hl [1, 0] rfl)
set_option maxRecDepth 100000 in
set_option maxHeartbeats 4000000 in
theorem ww_f10_hourGoes_l80  (C0 : Cx cX10_hourGoes 2 none RX10 p s m args meth c G DA) {h0 : Nat} {a0 : Nat → Nat}   {res : (Nat → Nat → Int32) × (Nat → Int32)}  : ∀ (n : Nat) (A0 : Nat → Nat → Int32) (f0 : Nat → Int32) (l1 : Int32), f10_hourGoes_l80   n A0 f0 l1 = some res → ∀ (H : Heap) (locs : List Loc) (ls : Array Slot), WD G DA (wX10 G h0 a0 f0 A0) H → va_S DA s.heap H locs → lv_has ls 2 [(0, .ref h0), (1, .int l1)] → W p l e rmX10_hourGoes s m args below meth c H locs 0 0 (MQ below (QV G DA (wX10 G h0 a0 res.2 res.1)) args s 0 0 DA) (F0 m 80 ls []) := by
  intro n
  induction n with
  | zero => intro A0 f0 l1 h; cases h
  | succ n ih => intro A0 f0 l1 h; exact ww_f10_hourGoes_b80 C0  ih A0 f0 l1 h
set_option maxRecDepth 100000 in
set_option maxHeartbeats 4000000 in
theorem ww_f10_hourGoes_b21  (C0 : Cx cX10_hourGoes 2 none RX10 p s m args meth c G DA) {h0 : Nat} {a0 : Nat → Nat}  {k21 : (Nat → Nat → Int32) → (Nat → Int32) → Int32 → Option ((Nat → Nat → Int32) × (Nat → Int32))} {res : (Nat → Nat → Int32) × (Nat → Int32)}  (hk21 : ∀ (A0 : Nat → Nat → Int32) (f0 : Nat → Int32) (l1 : Int32), k21 A0 f0 l1 = some res → ∀ (H : Heap) (locs : List Loc) (ls : Array Slot), WD G DA (wX10 G h0 a0 f0 A0) H → va_S DA s.heap H locs → lv_has ls 2 [(0, .ref h0), (1, .int l1)] → W p l e rmX10_hourGoes s m args below meth c H locs 0 0 (MQ below (QV G DA (wX10 G h0 a0 res.2 res.1)) args s 0 0 DA) (F0 m 21 ls [])) : ∀ (A0 : Nat → Nat → Int32) (f0 : Nat → Int32) (l1 : Int32), f10_hourGoes_b21   k21 A0 f0 l1 = some res → ∀ (H : Heap) (locs : List Loc) (ls : Array Slot), WD G DA (wX10 G h0 a0 f0 A0) H → va_S DA s.heap H locs → lv_has ls 2 [(0, .ref h0), (1, .int l1)] → W p l e rmX10_hourGoes s m args below meth c H locs 0 0 (MQ below (QV G DA (wX10 G h0 a0 res.2 res.1)) args s 0 0 DA) (F0 m 21 ls []) := by
  obtain ⟨hx, hb, hml, hown, hts⟩ := C0.1
  have hK := C0.2.2.2.1
  intro A0 f0 l1 h _ _ _ hPD hS hl
  unfold f10_hourGoes_b21 at h
  refine lv_iload_n hx hb dX10_hourGoes_21 rfl (lv_at hl 1 rfl) ?_
  refine lv_bipush (v := 16) hx hb dX10_hourGoes_22 (by decide) ?_
  refine lv_icmp_ge (tgt := 78) hx hb dX10_hourGoes_24 (by decide) (fun cc1 => ?_) (fun cc1 => ?_)
  · have h := (if_pos cc1).symm.trans h
    refine lv_iconst (v := 0) hx hb dX10_hourGoes_78 (by decide) ?_
    refine lv_istore_n (lv' := [(1, .int 0), (0, .ref h0)]) hx hb dX10_hourGoes_79 rfl hl (by decide) rfl (fun ls hl => ?_)
    exact ww_f10_hourGoes_l80 C0 NF A0 f0 0 h _ _ _ hPD hS (lv_sub hl [1, 0] rfl)
  · have h := (if_neg cc1).symm.trans h
    refine lv_aload_n hx hb dX10_hourGoes_27 rfl (lv_at hl 0 rfl) ?_
    refine lv_iload_n hx hb dX10_hourGoes_28 rfl (lv_at hl 1 rfl) ?_
    refine kVI (As := [.int l1]) (rest := []) C0 (kt_X10_isTold l G h0 a0 f0 A0 l1) gi_V_X10_128_X10_isTold (n := 1) rfl (by decide +kernel) rfl ⟨rfl, rfl, Nat.le_of_ble_eq_true rfl, Nat.le_of_ble_eq_true rfl⟩ hPD hS 0 10 rfl rfl rfl [0, 1, 2, 3, 4, 5, 6, 7, 8, 9, 10, 11, 12, 13, 14, 15, 16, 17, 18, 19, 20, 21, 22, 23, 24, 25, 26, 27, 28, 29, 30, 31, 32, 33] [] [0, 1, 2, 3, 4, 5, 6, 7, 8, 9, 10, 11, 12, 13, 14, 15, 16, 17, 18, 19, 20, 21, 22, 23, 24, 25, 26, 27, 28, 29, 30, 31, 32, 33] (wr := ([] : va_W)) (wN := (wX10 G h0 a0 f0 A0)) rfl rfl rfl rfl rfl hl.1 (Nat.le_of_ble_eq_true rfl) dX10_hourGoes_29 (fun H locs hPD hS => ?_)
    refine lv_if_eq (tgt := 72) hx hb dX10_hourGoes_32 (by decide) (fun cc1 => ?_) (fun cc1 => ?_)
    · have h := (if_pos cc1).symm.trans h
      refine lv_iinc (v := l1 + 1) (lv' := [(1, .int (l1 + 1)), (0, .ref h0)]) hx hb dX10_hourGoes_72 hl (k := 1) rfl rfl (by decide) rfl (fun ls hl => ?_)
      refine lv_goto (tgt := 21) hx hb dX10_hourGoes_75 (by decide) ?_
      exact hk21 A0 f0 (l1 + 1) h _ _ _ hPD hS (lv_sub hl [1, 0] rfl)
    · have h := (if_neg cc1).symm.trans h
      refine lv_aload_n hx hb dX10_hourGoes_35 rfl (lv_at hl 0 rfl) ?_
      refine va_get (D := G.1) (ci := 10) (v := .ref (a0 0)) (C := RX10) (T := TX10) (N := 52) hx hb hts inlX10 hown hK hPD.1 0 rfl rfl 0 (by decide) (hts _ gw_536) (fun _ h9 => h9) rfl dX10_hourGoes_36 ?_
      refine lv_bipush (v := 32) hx hb dX10_hourGoes_39 (by decide) ?_
      refine lv_iload_n hx hb dX10_hourGoes_41 rfl (lv_at hl 1 rfl) ?_
      refine lv_iadd hx hb dX10_hourGoes_42 ?_
      refine lv_aload_n hx hb dX10_hourGoes_43 rfl (lv_at hl 0 rfl) ?_
      refine lv_iload_n hx hb dX10_hourGoes_44 rfl (lv_at hl 1 rfl) ?_
      obtain ⟨q_3, hq_3, h⟩ := ob2 h
      refine kVI (As := [.int l1]) (rest := [.int (32 + l1), .ref (a0 0)]) C0 (kt_X10_menAt l G h0 a0 f0 A0 l1 hq_3) gi_V_X10_241_X10_menAt (n := 1) rfl (by decide +kernel) rfl ⟨rfl, rfl, Nat.le_of_ble_eq_true rfl, Nat.le_of_ble_eq_true rfl⟩ hPD hS 0 10 rfl rfl rfl [0, 1, 2, 3, 4, 5, 6, 7, 8, 9, 10, 11, 12, 13, 14, 15, 16, 17, 18, 19, 20, 21, 22, 23, 24, 25, 26, 27, 28, 29, 30, 31, 32, 33] [] [0, 1, 2, 3, 4, 5, 6, 7, 8, 9, 10, 11, 12, 13, 14, 15, 16, 17, 18, 19, 20, 21, 22, 23, 24, 25, 26, 27, 28, 29, 30, 31, 32, 33] (wr := ([] : va_W)) (wN := (wX10 G h0 a0 f0 A0)) rfl rfl rfl rfl rfl hl.1 (Nat.le_of_ble_eq_true rfl) dX10_hourGoes_45 (fun H locs hPD hS => ?_)
      refine lv_if_eq (tgt := 55) hx hb dX10_hourGoes_48 (by decide) (fun cc1 => ?_) (fun cc1 => ?_)
      · have h := (if_pos cc1).symm.trans h
        refine lv_bipush (v := 99) hx hb dX10_hourGoes_55 (by decide) ?_
        refine lv_aload_n hx hb dX10_hourGoes_57 rfl (lv_at hl 0 rfl) ?_
        refine va_get (D := G.1) (ci := 10) (v := .ref (a0 0)) (C := RX10) (T := TX10) (N := 52) hx hb hts inlX10 hown hK hPD.1 0 rfl rfl 0 (by decide) (hts _ gw_536) (fun _ h9 => h9) rfl dX10_hourGoes_58 ?_
        refine lv_bipush (v := 32) hx hb dX10_hourGoes_61 (by decide) ?_
        refine lv_iload_n hx hb dX10_hourGoes_63 rfl (lv_at hl 1 rfl) ?_
        refine lv_iadd hx hb dX10_hourGoes_64 ?_
        obtain ⟨hi_4, h⟩ := ob h
        refine va_iald hx hb hK hPD.1 1 1 rfl rfl hi_4 dX10_hourGoes_65 ?_
        refine lv_iconst (v := 1) hx hb dX10_hourGoes_66 (by decide) ?_
        refine lv_iadd hx hb dX10_hourGoes_67 ?_
        refine kSI (As := [.int 99, .int ((gx (A0 0) (32 + l1)) + 1)]) (rest := [.int (32 + l1), .ref (a0 0)]) C0 (kt_X10_min l G  99 ((gx (A0 0) (32 + l1)) + 1)) gi_S_X10_284_X10_min (n := 2) rfl (by decide +kernel) ⟨rfl, rfl, Nat.le_of_ble_eq_true rfl, Nat.le_of_ble_eq_true rfl⟩ hPD hS [] [0, 1, 2, 3, 4, 5, 6, 7, 8, 9, 10, 11, 12, 13, 14, 15, 16, 17, 18, 19, 20, 21, 22, 23, 24, 25, 26, 27, 28, 29, 30, 31, 32, 33] [0, 1, 2, 3, 4, 5, 6, 7, 8, 9, 10, 11, 12, 13, 14, 15, 16, 17, 18, 19, 20, 21, 22, 23, 24, 25, 26, 27, 28, 29, 30, 31, 32, 33] (wr := (wX10 G h0 a0 f0 A0)) (wN := (wX10 G h0 a0 f0 A0)) rfl rfl rfl rfl rfl hl.1 (Nat.le_of_ble_eq_true rfl) dX10_hourGoes_68 (fun H locs hPD hS => ?_)
        obtain ⟨hi_5, h⟩ := ob h
        refine va_iast hx hb hK hPD.1 hPD.2 hS 1 1 rfl rfl hi_5 dX10_hourGoes_71 (fun H locs hP hD hS => ?_)
        obtain ⟨A0_6, eA0_6, h⟩ := lvl h
        have hPD : WD G DA (wX10 G h0 a0 f0 A0_6) H := by rw [eA0_6]; exact ⟨hP, hD⟩
        clear eA0_6 hP hD
        refine lv_iinc (v := l1 + 1) (lv' := [(1, .int (l1 + 1)), (0, .ref h0)]) hx hb dX10_hourGoes_72 hl (k := 1) rfl rfl (by decide) rfl (fun ls hl => ?_)
        refine lv_goto (tgt := 21) hx hb dX10_hourGoes_75 (by decide) ?_
        exact hk21 A0_6 f0 (l1 + 1) h _ _ _ hPD hS (lv_sub hl [1, 0] rfl)
      · have h := (if_neg cc1).symm.trans h
        refine lv_iconst (v := 0) hx hb dX10_hourGoes_51 (by decide) ?_
        refine lv_goto (tgt := 71) hx hb dX10_hourGoes_52 (by decide) ?_
        obtain ⟨hi_7, h⟩ := ob h
        refine va_iast hx hb hK hPD.1 hPD.2 hS 1 1 rfl rfl hi_7 dX10_hourGoes_71 (fun H locs hP hD hS => ?_)
        obtain ⟨A0_8, eA0_8, h⟩ := lvl h
        have hPD : WD G DA (wX10 G h0 a0 f0 A0_8) H := by rw [eA0_8]; exact ⟨hP, hD⟩
        clear eA0_8 hP hD
        refine lv_iinc (v := l1 + 1) (lv' := [(1, .int (l1 + 1)), (0, .ref h0)]) hx hb dX10_hourGoes_72 hl (k := 1) rfl rfl (by decide) rfl (fun ls hl => ?_)
        refine lv_goto (tgt := 21) hx hb dX10_hourGoes_75 (by decide) ?_
        exact hk21 A0_8 f0 (l1 + 1) h _ _ _ hPD hS (lv_sub hl [1, 0] rfl)
set_option maxRecDepth 100000 in
set_option maxHeartbeats 4000000 in
theorem ww_f10_hourGoes_l21  (C0 : Cx cX10_hourGoes 2 none RX10 p s m args meth c G DA) {h0 : Nat} {a0 : Nat → Nat}   {res : (Nat → Nat → Int32) × (Nat → Int32)}  : ∀ (n : Nat) (A0 : Nat → Nat → Int32) (f0 : Nat → Int32) (l1 : Int32), f10_hourGoes_l21   n A0 f0 l1 = some res → ∀ (H : Heap) (locs : List Loc) (ls : Array Slot), WD G DA (wX10 G h0 a0 f0 A0) H → va_S DA s.heap H locs → lv_has ls 2 [(0, .ref h0), (1, .int l1)] → W p l e rmX10_hourGoes s m args below meth c H locs 0 0 (MQ below (QV G DA (wX10 G h0 a0 res.2 res.1)) args s 0 0 DA) (F0 m 21 ls []) := by
  intro n
  induction n with
  | zero => intro A0 f0 l1 h; cases h
  | succ n ih => intro A0 f0 l1 h; exact ww_f10_hourGoes_b21 C0  ih A0 f0 l1 h
set_option maxRecDepth 100000 in
set_option maxHeartbeats 4000000 in
theorem ww_f10_hourGoes_b2  (C0 : Cx cX10_hourGoes 2 none RX10 p s m args meth c G DA) {h0 : Nat} {a0 : Nat → Nat}  {k2 : (Nat → Nat → Int32) → (Nat → Int32) → Int32 → Option ((Nat → Nat → Int32) × (Nat → Int32))} {res : (Nat → Nat → Int32) × (Nat → Int32)}  (hk2 : ∀ (A0 : Nat → Nat → Int32) (f0 : Nat → Int32) (l1 : Int32), k2 A0 f0 l1 = some res → ∀ (H : Heap) (locs : List Loc) (ls : Array Slot), WD G DA (wX10 G h0 a0 f0 A0) H → va_S DA s.heap H locs → lv_has ls 2 [(0, .ref h0), (1, .int l1)] → W p l e rmX10_hourGoes s m args below meth c H locs 0 0 (MQ below (QV G DA (wX10 G h0 a0 res.2 res.1)) args s 0 0 DA) (F0 m 2 ls [])) : ∀ (A0 : Nat → Nat → Int32) (f0 : Nat → Int32) (l1 : Int32), f10_hourGoes_b2   k2 A0 f0 l1 = some res → ∀ (H : Heap) (locs : List Loc) (ls : Array Slot), WD G DA (wX10 G h0 a0 f0 A0) H → va_S DA s.heap H locs → lv_has ls 2 [(0, .ref h0), (1, .int l1)] → W p l e rmX10_hourGoes s m args below meth c H locs 0 0 (MQ below (QV G DA (wX10 G h0 a0 res.2 res.1)) args s 0 0 DA) (F0 m 2 ls []) := by
  obtain ⟨hx, hb, hml, hown, hts⟩ := C0.1
  have hK := C0.2.2.2.1
  intro A0 f0 l1 h _ _ _ hPD hS hl
  unfold f10_hourGoes_b2 at h
  refine lv_iload_n hx hb dX10_hourGoes_2 rfl (lv_at hl 1 rfl) ?_
  refine lv_bipush (v := 8) hx hb dX10_hourGoes_3 (by decide) ?_
  refine lv_icmp_ge (tgt := 19) hx hb dX10_hourGoes_5 (by decide) (fun cc1 => ?_) (fun cc1 => ?_)
  · have h := (if_pos cc1).symm.trans h
    refine lv_iconst (v := 0) hx hb dX10_hourGoes_19 (by decide) ?_
    refine lv_istore_n (lv' := [(1, .int 0), (0, .ref h0)]) hx hb dX10_hourGoes_20 rfl hl (by decide) rfl (fun ls hl => ?_)
    exact ww_f10_hourGoes_l21 C0 NF A0 f0 0 h _ _ _ hPD hS (lv_sub hl [1, 0] rfl)
  · have h := (if_neg cc1).symm.trans h
    refine lv_aload_n hx hb dX10_hourGoes_8 rfl (lv_at hl 0 rfl) ?_
    refine lv_iload_n hx hb dX10_hourGoes_9 rfl (lv_at hl 1 rfl) ?_
    obtain ⟨q_9, hq_9, h⟩ := ob2 h
    refine kVV (As := [.int l1]) (rest := []) C0 (kt_X10_walks l G h0 a0 f0 A0 l1 hq_9) gi_V_X10_317_X10_walks (n := 1) rfl (by decide +kernel) rfl ⟨rfl, rfl, Nat.le_of_ble_eq_true rfl, Nat.le_of_ble_eq_true rfl⟩ hPD hS 0 10 rfl rfl rfl [0, 1, 2, 3, 4, 5, 6, 7, 8, 9, 10, 11, 12, 13, 14, 15, 16, 17, 18, 19, 20, 21, 22, 23, 24, 25, 26, 27, 28, 29, 30, 31, 32, 33] [] [0, 1, 2, 3, 4, 5, 6, 7, 8, 9, 10, 11, 12, 13, 14, 15, 16, 17, 18, 19, 20, 21, 22, 23, 24, 25, 26, 27, 28, 29, 30, 31, 32, 33] (wr := ([] : va_W)) (wN := (wX10 G h0 a0 f0 q_9)) rfl rfl rfl rfl rfl hl.1 (Nat.le_of_ble_eq_true rfl) dX10_hourGoes_10 (fun H locs hPD hS => ?_)
    refine lv_iinc (v := l1 + 1) (lv' := [(1, .int (l1 + 1)), (0, .ref h0)]) hx hb dX10_hourGoes_13 hl (k := 1) rfl rfl (by decide) rfl (fun ls hl => ?_)
    refine lv_goto (tgt := 2) hx hb dX10_hourGoes_16 (by decide) ?_
    exact hk2 q_9 f0 (l1 + 1) h _ _ _ hPD hS (lv_sub hl [1, 0] rfl)
set_option maxRecDepth 100000 in
set_option maxHeartbeats 4000000 in
theorem ww_f10_hourGoes_l2  (C0 : Cx cX10_hourGoes 2 none RX10 p s m args meth c G DA) {h0 : Nat} {a0 : Nat → Nat}   {res : (Nat → Nat → Int32) × (Nat → Int32)}  : ∀ (n : Nat) (A0 : Nat → Nat → Int32) (f0 : Nat → Int32) (l1 : Int32), f10_hourGoes_l2   n A0 f0 l1 = some res → ∀ (H : Heap) (locs : List Loc) (ls : Array Slot), WD G DA (wX10 G h0 a0 f0 A0) H → va_S DA s.heap H locs → lv_has ls 2 [(0, .ref h0), (1, .int l1)] → W p l e rmX10_hourGoes s m args below meth c H locs 0 0 (MQ below (QV G DA (wX10 G h0 a0 res.2 res.1)) args s 0 0 DA) (F0 m 2 ls []) := by
  intro n
  induction n with
  | zero => intro A0 f0 l1 h; cases h
  | succ n ih => intro A0 f0 l1 h; exact ww_f10_hourGoes_b2 C0  ih A0 f0 l1 h
set_option maxRecDepth 100000 in
set_option maxHeartbeats 4000000 in
theorem kt_X10_hourGoes (l : Launch) (G : Gp) (h0 : Nat) (a0 : Nat → Nat) (f0 : Nat → Int32) (A0 : Nat → Nat → Int32) : ∀ {r : (Nat → Nat → Int32) × (Nat → Int32)}, f10_hourGoes f0 A0 = some r → CtrV l yX10_hourGoes cX10_hourGoes 2 none rmX10_hourGoes G [.ref h0] (wX10 G h0 a0 f0 A0) (wX10 G h0 a0 r.2 r.1) := by
  intro res h
  refine ctrV_of (cc := cX10_hourGoes) (maxL := 2) (ret := none) (by decide +kernel) rfl (Nat.le_of_ble_eq_true rfl) (fun p e s m below meth c DA C0 hP hD ls hl => ?_)
  have hPD : WD G DA (wX10 G h0 a0 f0 A0) s.heap := ⟨hP, hD⟩
  have hS : va_S DA s.heap s.heap [] := va_S.rf
  have hl : lv_has ls 2 [(0, .ref h0)] := hl
  obtain ⟨hx, hb, hml, hown, hts⟩ := C0.1
  have hK := C0.2.2.2.1
  unfold f10_hourGoes at h
  refine lv_iconst (v := 0) hx hb dX10_hourGoes_0 (by decide) ?_
  refine lv_istore_n (lv' := [(1, .int 0), (0, .ref h0)]) hx hb dX10_hourGoes_1 rfl hl (by decide) rfl (fun ls hl => ?_)
  exact ww_f10_hourGoes_l2 C0 NF A0 f0 0 h _ _ _ hPD hS (lv_sub hl [1, 0] rfl)
abbrev rmX10_hoursGo : Room := { frames := 8, cells := 0, slots := 0, locals := 177 }
set_option maxRecDepth 100000 in
set_option maxHeartbeats 4000000 in
theorem ww_f10_hoursGo_b12  (C0 : Cx cX10_hoursGo 3 none RX10 p s m args meth c G DA) {h0 : Nat} {a0 : Nat → Nat} {p1 : Int32}  {k12 : (Nat → Nat → Int32) → (Nat → Int32) → Int32 → Option ((Nat → Nat → Int32) × (Nat → Int32))} {res : (Nat → Nat → Int32) × (Nat → Int32)}  (hk12 : ∀ (A0 : Nat → Nat → Int32) (f0 : Nat → Int32) (l2 : Int32), k12 A0 f0 l2 = some res → ∀ (H : Heap) (locs : List Loc) (ls : Array Slot), WD G DA (wX10 G h0 a0 f0 A0) H → va_S DA s.heap H locs → lv_has ls 3 [(0, .ref h0), (1, .int p1), (2, .int l2)] → W p l e rmX10_hoursGo s m args below meth c H locs 0 0 (MQ below (QV G DA (wX10 G h0 a0 res.2 res.1)) args s 0 0 DA) (F0 m 12 ls [])) : ∀ (A0 : Nat → Nat → Int32) (f0 : Nat → Int32) (l2 : Int32), f10_hoursGo_b12 p1  k12 A0 f0 l2 = some res → ∀ (H : Heap) (locs : List Loc) (ls : Array Slot), WD G DA (wX10 G h0 a0 f0 A0) H → va_S DA s.heap H locs → lv_has ls 3 [(0, .ref h0), (1, .int p1), (2, .int l2)] → W p l e rmX10_hoursGo s m args below meth c H locs 0 0 (MQ below (QV G DA (wX10 G h0 a0 res.2 res.1)) args s 0 0 DA) (F0 m 12 ls []) := by
  obtain ⟨hx, hb, hml, hown, hts⟩ := C0.1
  have hK := C0.2.2.2.1
  intro A0 f0 l2 h _ _ _ hPD hS hl
  unfold f10_hoursGo_b12 at h
  refine lv_iload_n hx hb dX10_hoursGo_12 rfl (lv_at hl 2 rfl) ?_
  refine lv_iload_n hx hb dX10_hoursGo_13 rfl (lv_at hl 1 rfl) ?_
  refine lv_icmp_ge (tgt := 40) hx hb dX10_hoursGo_14 (by decide) (fun cc1 => ?_) (fun cc1 => ?_)
  · have h := (if_pos cc1).symm.trans h
    obtain rfl := Option.some.inj h
    exact eV C0 hPD.1 hPD.2 hS dX10_hoursGo_40
  · have h := (if_neg cc1).symm.trans h
    refine lv_aload_n hx hb dX10_hoursGo_17 rfl (lv_at hl 0 rfl) ?_
    refine va_get (D := G.1) (ci := 10) (v := .ref (a0 0)) (C := RX10) (T := TX10) (N := 52) hx hb hts inlX10 hown hK hPD.1 0 rfl rfl 0 (by decide) (hts _ gw_536) (fun _ h9 => h9) rfl dX10_hoursGo_18 ?_
    refine lv_bipush (v := 74) hx hb dX10_hoursGo_21 (by decide) ?_
    refine va_iald hx hb hK hPD.1 1 1 rfl rfl (vin rfl) dX10_hoursGo_23 ?_
    refine lv_sipush (v := 9999) hx hb dX10_hoursGo_24 (by decide) ?_
    refine lv_icmp_ge (tgt := 40) hx hb dX10_hoursGo_27 (by decide) (fun cc1 => ?_) (fun cc1 => ?_)
    · have h := (if_pos cc1).symm.trans h
      obtain rfl := Option.some.inj h
      exact eV C0 hPD.1 hPD.2 hS dX10_hoursGo_40
    · have h := (if_neg cc1).symm.trans h
      refine lv_aload_n hx hb dX10_hoursGo_30 rfl (lv_at hl 0 rfl) ?_
      obtain ⟨q_3, hq_3, h⟩ := ob2 h
      refine kVV (As := []) (rest := []) C0 (kt_X10_hourGoes l G h0 a0 f0 A0 hq_3) gi_V_X10_323_X10_hourGoes (n := 0) rfl (by decide +kernel) rfl ⟨rfl, rfl, Nat.le_of_ble_eq_true rfl, Nat.le_of_ble_eq_true rfl⟩ hPD hS 0 10 rfl rfl rfl [0, 1, 2, 3, 4, 5, 6, 7, 8, 9, 10, 11, 12, 13, 14, 15, 16, 17, 18, 19, 20, 21, 22, 23, 24, 25, 26, 27, 28, 29, 30, 31, 32, 33] [] [0, 1, 2, 3, 4, 5, 6, 7, 8, 9, 10, 11, 12, 13, 14, 15, 16, 17, 18, 19, 20, 21, 22, 23, 24, 25, 26, 27, 28, 29, 30, 31, 32, 33] (wr := ([] : va_W)) (wN := (wX10 G h0 a0 q_3.2 q_3.1)) rfl rfl rfl rfl rfl hl.1 (Nat.le_of_ble_eq_true rfl) dX10_hoursGo_31 (fun H locs hPD hS => ?_)
      refine lv_iinc (v := l2 + 1) (lv' := [(2, .int (l2 + 1)), (0, .ref h0), (1, .int p1)]) hx hb dX10_hoursGo_34 hl (k := 2) rfl rfl (by decide) rfl (fun ls hl => ?_)
      refine lv_goto (tgt := 12) hx hb dX10_hoursGo_37 (by decide) ?_
      exact hk12 q_3.1 q_3.2 (l2 + 1) h _ _ _ hPD hS (lv_sub hl [1, 2, 0] rfl)
end WALK
