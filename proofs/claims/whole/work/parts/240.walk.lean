section WALK
variable {p : Program} {l : Launch} {e : Env} {s : State} {m : MethodId} {args : Array Value} {below : List Frame} {meth : Method} {c : Code} {G : Gp} {DA : Nat → Prop}
abbrev rmX10_alone : Room := { frames := 8, cells := 0, slots := 0, locals := 177 }
set_option maxRecDepth 100000 in
set_option maxHeartbeats 4000000 in
theorem ww_f10_alone_b93  (C0 : Cx cX10_alone 6 (some .int) RX10 p s m args meth c G DA) {h0 : Nat} {a0 : Nat → Nat} {p1 : Int32} {p2 : Int32}   {res : Int32 × (Nat → Nat → Int32) × (Nat → Int32)}  : ∀ (A0 : Nat → Nat → Int32) (f0 : Nat → Int32) (l4 : Int32), f10_alone_b93 p1 p2  A0 f0 l4 = some res → ∀ (H : Heap) (locs : List Loc) (ls : Array Slot), WD G DA (wX10 G h0 a0 f0 A0) H → va_S DA s.heap H locs → lv_has ls 6 [(0, .ref h0), (1, .int p1), (2, .int p2), (4, .int l4)] → W p l e rmX10_alone s m args below meth c H locs 0 0 (MQ below (QI G DA res.1 (wX10 G h0 a0 res.2.2 res.2.1)) args s 0 0 DA) (F0 m 93 ls []) := by
  obtain ⟨hx, hb, hml, hown, hts⟩ := C0.1
  have hK := C0.2.2.2.1
  intro A0 f0 l4 h _ _ _ hPD hS hl
  unfold f10_alone_b93 at h
  refine lv_aload_n hx hb dX10_alone_93 rfl (lv_at hl 0 rfl) ?_
  refine va_get (D := G.1) (ci := 10) (v := .ref (a0 1)) (C := RX10) (T := TX10) (N := 52) hx hb hts inlX10 hown hK hPD.1 0 rfl rfl 1 (by decide) (hts _ gw_716) (fun _ h9 => h9) rfl dX10_alone_94 ?_
  refine lv_aload_n hx hb dX10_alone_97 rfl (lv_at hl 0 rfl) ?_
  refine va_get (D := G.1) (ci := 10) (v := .ref (a0 0)) (C := RX10) (T := TX10) (N := 52) hx hb hts inlX10 hown hK hPD.1 0 rfl rfl 0 (by decide) (hts _ gw_536) (fun _ h9 => h9) rfl dX10_alone_98 ?_
  obtain ⟨q_3, hq_3, h⟩ := ob2 h
  refine kSV (As := [.ref (a0 1), .ref (a0 0)]) (rest := []) C0 (kt_X10_copies l G (a0 1) (a0 0) 76 (A0 1) 76 (A0 0) (by decide) (by decide) hq_3) gi_S_X10_290_X10_copies (n := 2) rfl (by decide +kernel) ⟨rfl, rfl, Nat.le_of_ble_eq_true rfl, Nat.le_of_ble_eq_true rfl⟩ hPD hS [2, 1] [0, 3, 4, 5, 6, 7, 8, 9, 10, 11, 12, 13, 14, 15, 16, 17, 18, 19, 20, 21, 22, 23, 24, 25, 26, 27, 28, 29, 30, 31, 32, 33] [0, 33, 32, 1, 2, 3, 4, 5, 6, 7, 8, 9, 10, 11, 12, 13, 14, 15, 16, 17, 18, 19, 20, 21, 22, 23, 24, 25, 26, 27, 28, 29, 30, 31] (wr := pick (wX10 G h0 a0 f0 A0) [0, 3, 4, 5, 6, 7, 8, 9, 10, 11, 12, 13, 14, 15, 16, 17, 18, 19, 20, 21, 22, 23, 24, 25, 26, 27, 28, 29, 30, 31, 32, 33]) (wN := (wX10 G h0 a0 f0 (updA A0 0 q_3))) rfl rfl rfl rfl rfl hl.1 (Nat.le_of_ble_eq_true rfl) dX10_alone_101 (fun H locs hPD hS => ?_)
  obtain ⟨A0_4, eA0_4, h⟩ := lvl h
  have hPD : WD G DA (wX10 G h0 a0 f0 A0_4) H := by rw [eA0_4]; exact hPD
  clear eA0_4
  refine lv_iload hx hb dX10_alone_104 (lv_at hl 3 rfl) ?_
  obtain rfl := Option.some.inj h
  exact eI C0 hPD.1 hPD.2 hS rfl dX10_alone_106
set_option maxRecDepth 100000 in
set_option maxHeartbeats 4000000 in
theorem ww_f10_alone_b78  (C0 : Cx cX10_alone 6 (some .int) RX10 p s m args meth c G DA) {h0 : Nat} {a0 : Nat → Nat} {p1 : Int32} {p2 : Int32}  {k40 : (Nat → Nat → Int32) → (Nat → Int32) → Int32 → Int32 → Int32 → Option (Int32 × (Nat → Nat → Int32) × (Nat → Int32))} {res : Int32 × (Nat → Nat → Int32) × (Nat → Int32)} (hk40 : ∀ (A0 : Nat → Nat → Int32) (f0 : Nat → Int32) (l3 : Int32) (l4 : Int32) (l5 : Int32), k40 A0 f0 l3 l4 l5 = some res → ∀ (H : Heap) (locs : List Loc) (ls : Array Slot), WD G DA (wX10 G h0 a0 f0 A0) H → va_S DA s.heap H locs → lv_has ls 6 [(0, .ref h0), (1, .int p1), (2, .int p2), (3, .int l3), (4, .int l4), (5, .int l5)] → W p l e rmX10_alone s m args below meth c H locs 0 0 (MQ below (QI G DA res.1 (wX10 G h0 a0 res.2.2 res.2.1)) args s 0 0 DA) (F0 m 40 ls [])) : ∀ (A0 : Nat → Nat → Int32) (f0 : Nat → Int32) (l4 : Int32) (l5 : Int32) (s0 : Int32), f10_alone_b78 p1 p2 k40 A0 f0 l4 l5 s0 = some res → ∀ (H : Heap) (locs : List Loc) (ls : Array Slot), WD G DA (wX10 G h0 a0 f0 A0) H → va_S DA s.heap H locs → lv_has ls 6 [(0, .ref h0), (1, .int p1), (2, .int p2), (4, .int l4), (5, .int l5)] → W p l e rmX10_alone s m args below meth c H locs 0 0 (MQ below (QI G DA res.1 (wX10 G h0 a0 res.2.2 res.2.1)) args s 0 0 DA) (F0 m 78 ls [.int s0]) := by
  obtain ⟨hx, hb, hml, hown, hts⟩ := C0.1
  have hK := C0.2.2.2.1
  intro A0 f0 l4 l5 s0 h _ _ _ hPD hS hl
  unfold f10_alone_b78 at h
  refine lv_istore_n (lv' := [(3, .int s0), (0, .ref h0), (1, .int p1), (2, .int p2), (4, .int l4), (5, .int l5)]) hx hb dX10_alone_78 rfl hl (by decide) rfl (fun ls hl => ?_)
  refine lv_iload hx hb dX10_alone_79 (lv_at hl 4 rfl) ?_
  refine lv_iload_n hx hb dX10_alone_81 rfl (lv_at hl 0 rfl) ?_
  refine kSI (As := [.int l4, .int s0]) (rest := []) C0 (kt_X10_max l G  l4 s0) gi_S_X10_287_X10_max (n := 2) rfl (by decide +kernel) ⟨rfl, rfl, Nat.le_of_ble_eq_true rfl, Nat.le_of_ble_eq_true rfl⟩ hPD hS [] [0, 1, 2, 3, 4, 5, 6, 7, 8, 9, 10, 11, 12, 13, 14, 15, 16, 17, 18, 19, 20, 21, 22, 23, 24, 25, 26, 27, 28, 29, 30, 31, 32, 33] [0, 1, 2, 3, 4, 5, 6, 7, 8, 9, 10, 11, 12, 13, 14, 15, 16, 17, 18, 19, 20, 21, 22, 23, 24, 25, 26, 27, 28, 29, 30, 31, 32, 33] (wr := (wX10 G h0 a0 f0 A0)) (wN := (wX10 G h0 a0 f0 A0)) rfl rfl rfl rfl rfl hl.1 (Nat.le_of_ble_eq_true rfl) dX10_alone_82 (fun H locs hPD hS => ?_)
  refine lv_istore (lv' := [(4, .int (f10_max l4 s0)), (3, .int s0), (0, .ref h0), (1, .int p1), (2, .int p2), (5, .int l5)]) hx hb dX10_alone_85 hl (by decide) rfl (fun ls hl => ?_)
  refine lv_iinc (v := l5 + 1) (lv' := [(5, .int (l5 + 1)), (4, .int (f10_max l4 s0)), (3, .int s0), (0, .ref h0), (1, .int p1), (2, .int p2)]) hx hb dX10_alone_87 hl (k := 5) rfl rfl (by decide) rfl (fun ls hl => ?_)
  refine lv_goto (tgt := 40) hx hb dX10_alone_90 (by decide) ?_
  exact hk40 A0 f0 s0 (f10_max l4 s0) (l5 + 1) h _ _ _ hPD hS (lv_sub hl [3, 4, 5, 2, 1, 0] rfl)
set_option maxRecDepth 100000 in
set_option maxHeartbeats 4000000 in
theorem ww_f10_alone_b40  (C0 : Cx cX10_alone 6 (some .int) RX10 p s m args meth c G DA) {h0 : Nat} {a0 : Nat → Nat} {p1 : Int32} {p2 : Int32}  {k40 : (Nat → Nat → Int32) → (Nat → Int32) → Int32 → Int32 → Int32 → Option (Int32 × (Nat → Nat → Int32) × (Nat → Int32))} {res : Int32 × (Nat → Nat → Int32) × (Nat → Int32)}  (hk40 : ∀ (A0 : Nat → Nat → Int32) (f0 : Nat → Int32) (l3 : Int32) (l4 : Int32) (l5 : Int32), k40 A0 f0 l3 l4 l5 = some res → ∀ (H : Heap) (locs : List Loc) (ls : Array Slot), WD G DA (wX10 G h0 a0 f0 A0) H → va_S DA s.heap H locs → lv_has ls 6 [(0, .ref h0), (1, .int p1), (2, .int p2), (3, .int l3), (4, .int l4), (5, .int l5)] → W p l e rmX10_alone s m args below meth c H locs 0 0 (MQ below (QI G DA res.1 (wX10 G h0 a0 res.2.2 res.2.1)) args s 0 0 DA) (F0 m 40 ls [])) : ∀ (A0 : Nat → Nat → Int32) (f0 : Nat → Int32) (l3 : Int32) (l4 : Int32) (l5 : Int32), f10_alone_b40 p1 p2  k40 A0 f0 l3 l4 l5 = some res → ∀ (H : Heap) (locs : List Loc) (ls : Array Slot), WD G DA (wX10 G h0 a0 f0 A0) H → va_S DA s.heap H locs → lv_has ls 6 [(0, .ref h0), (1, .int p1), (2, .int p2), (3, .int l3), (4, .int l4), (5, .int l5)] → W p l e rmX10_alone s m args below meth c H locs 0 0 (MQ below (QI G DA res.1 (wX10 G h0 a0 res.2.2 res.2.1)) args s 0 0 DA) (F0 m 40 ls []) := by
  obtain ⟨hx, hb, hml, hown, hts⟩ := C0.1
  have hK := C0.2.2.2.1
  intro A0 f0 l3 l4 l5 h _ _ _ hPD hS hl
  unfold f10_alone_b40 at h
  refine lv_iload hx hb dX10_alone_40 (lv_at hl 5 rfl) ?_
  refine lv_iload_n hx hb dX10_alone_42 rfl (lv_at hl 2 rfl) ?_
  refine lv_icmp_ge (tgt := 93) hx hb dX10_alone_43 (by decide) (fun cc1 => ?_) (fun cc1 => ?_)
  · have h := (if_pos cc1).symm.trans h
    exact ww_f10_alone_b93 C0 A0 f0 l4 h _ _ _ hPD hS (lv_sub hl [0, 1, 2, 4] rfl)
  · have h := (if_neg cc1).symm.trans h
    refine lv_aload_n hx hb dX10_alone_46 rfl (lv_at hl 0 rfl) ?_
    refine va_get (D := G.1) (ci := 10) (v := .ref (a0 0)) (C := RX10) (T := TX10) (N := 52) hx hb hts inlX10 hown hK hPD.1 0 rfl rfl 0 (by decide) (hts _ gw_536) (fun _ h9 => h9) rfl dX10_alone_47 ?_
    refine lv_bipush (v := 74) hx hb dX10_alone_50 (by decide) ?_
    refine va_iald hx hb hK hPD.1 1 1 rfl rfl (vin rfl) dX10_alone_52 ?_
    refine lv_sipush (v := 9999) hx hb dX10_alone_53 (by decide) ?_
    refine lv_icmp_ge (tgt := 93) hx hb dX10_alone_56 (by decide) (fun cc1 => ?_) (fun cc1 => ?_)
    · have h := (if_pos cc1).symm.trans h
      exact ww_f10_alone_b93 C0 A0 f0 l4 h _ _ _ hPD hS (lv_sub hl [0, 1, 2, 4] rfl)
    · have h := (if_neg cc1).symm.trans h
      refine lv_aload_n hx hb dX10_alone_59 rfl (lv_at hl 0 rfl) ?_
      obtain ⟨q_5, hq_5, h⟩ := ob2 h
      refine kVV (As := []) (rest := []) C0 (kt_X10_hourGoes l G h0 a0 f0 A0 hq_5) gi_V_X10_323_X10_hourGoes (n := 0) rfl (by decide +kernel) rfl ⟨rfl, rfl, Nat.le_of_ble_eq_true rfl, Nat.le_of_ble_eq_true rfl⟩ hPD hS 0 10 rfl rfl rfl [0, 1, 2, 3, 4, 5, 6, 7, 8, 9, 10, 11, 12, 13, 14, 15, 16, 17, 18, 19, 20, 21, 22, 23, 24, 25, 26, 27, 28, 29, 30, 31, 32, 33] [] [0, 1, 2, 3, 4, 5, 6, 7, 8, 9, 10, 11, 12, 13, 14, 15, 16, 17, 18, 19, 20, 21, 22, 23, 24, 25, 26, 27, 28, 29, 30, 31, 32, 33] (wr := ([] : va_W)) (wN := (wX10 G h0 a0 q_5.2 q_5.1)) rfl rfl rfl rfl rfl hl.1 (Nat.le_of_ble_eq_true rfl) dX10_alone_60 (fun H locs hPD hS => ?_)
      refine lv_aload_n hx hb dX10_alone_63 rfl (lv_at hl 0 rfl) ?_
      refine lv_iload_n hx hb dX10_alone_64 rfl (lv_at hl 1 rfl) ?_
      obtain ⟨q_6, hq_6, h⟩ := ob2 h
      refine kVI (As := [.int p1]) (rest := []) C0 (kt_X10_menAt l G h0 a0 q_5.2 q_5.1 p1 hq_6) gi_V_X10_241_X10_menAt (n := 1) rfl (by decide +kernel) rfl ⟨rfl, rfl, Nat.le_of_ble_eq_true rfl, Nat.le_of_ble_eq_true rfl⟩ hPD hS 0 10 rfl rfl rfl [0, 1, 2, 3, 4, 5, 6, 7, 8, 9, 10, 11, 12, 13, 14, 15, 16, 17, 18, 19, 20, 21, 22, 23, 24, 25, 26, 27, 28, 29, 30, 31, 32, 33] [] [0, 1, 2, 3, 4, 5, 6, 7, 8, 9, 10, 11, 12, 13, 14, 15, 16, 17, 18, 19, 20, 21, 22, 23, 24, 25, 26, 27, 28, 29, 30, 31, 32, 33] (wr := ([] : va_W)) (wN := (wX10 G h0 a0 q_5.2 q_5.1)) rfl rfl rfl rfl rfl hl.1 (Nat.le_of_ble_eq_true rfl) dX10_alone_65 (fun H locs hPD hS => ?_)
      refine lv_if_eq (tgt := 75) hx hb dX10_alone_68 (by decide) (fun cc1 => ?_) (fun cc1 => ?_)
      · have h := (if_pos cc1).symm.trans h
        refine lv_iload_n hx hb dX10_alone_75 rfl (lv_at hl 3 rfl) ?_
        refine lv_iconst (v := 1) hx hb dX10_alone_76 (by decide) ?_
        refine lv_iadd hx hb dX10_alone_77 ?_
        exact ww_f10_alone_b78 C0 hk40 q_5.1 q_5.2 l4 l5 (l3 + 1) h _ _ _ hPD hS (lv_sub hl [0, 1, 2, 4, 5] rfl)
      · have h := (if_neg cc1).symm.trans h
        refine lv_iconst (v := 0) hx hb dX10_alone_71 (by decide) ?_
        refine lv_goto (tgt := 78) hx hb dX10_alone_72 (by decide) ?_
        exact ww_f10_alone_b78 C0 hk40 q_5.1 q_5.2 l4 l5 0 h _ _ _ hPD hS (lv_sub hl [0, 1, 2, 4, 5] rfl)
set_option maxRecDepth 100000 in
set_option maxHeartbeats 4000000 in
theorem ww_f10_alone_l40  (C0 : Cx cX10_alone 6 (some .int) RX10 p s m args meth c G DA) {h0 : Nat} {a0 : Nat → Nat} {p1 : Int32} {p2 : Int32}   {res : Int32 × (Nat → Nat → Int32) × (Nat → Int32)}  : ∀ (n : Nat) (A0 : Nat → Nat → Int32) (f0 : Nat → Int32) (l3 : Int32) (l4 : Int32) (l5 : Int32), f10_alone_l40 p1 p2  n A0 f0 l3 l4 l5 = some res → ∀ (H : Heap) (locs : List Loc) (ls : Array Slot), WD G DA (wX10 G h0 a0 f0 A0) H → va_S DA s.heap H locs → lv_has ls 6 [(0, .ref h0), (1, .int p1), (2, .int p2), (3, .int l3), (4, .int l4), (5, .int l5)] → W p l e rmX10_alone s m args below meth c H locs 0 0 (MQ below (QI G DA res.1 (wX10 G h0 a0 res.2.2 res.2.1)) args s 0 0 DA) (F0 m 40 ls []) := by
  intro n
  induction n with
  | zero => intro A0 f0 l3 l4 l5 h; cases h
  | succ n ih => intro A0 f0 l3 l4 l5 h; exact ww_f10_alone_b40 C0  ih A0 f0 l3 l4 l5 h
set_option maxRecDepth 100000 in
set_option maxHeartbeats 4000000 in
theorem kt_X10_alone (l : Launch) (G : Gp) (h0 : Nat) (a0 : Nat → Nat) (f0 : Nat → Int32) (A0 : Nat → Nat → Int32) (p1 : Int32) (p2 : Int32) : ∀ {r : Int32 × (Nat → Nat → Int32) × (Nat → Int32)}, f10_alone f0 A0 p1 p2 = some r → CtrI l yX10_alone cX10_alone 6 (some .int) rmX10_alone G [.ref h0, .int p1, .int p2] (wX10 G h0 a0 f0 A0) r.1 (wX10 G h0 a0 r.2.2 r.2.1) := by
  intro res h
  refine ctrI_of (cc := cX10_alone) (maxL := 6) (ret := (some .int)) (by decide +kernel) rfl (Nat.le_of_ble_eq_true rfl) (fun p e s m below meth c DA C0 hP hD ls hl => ?_)
  have hPD : WD G DA (wX10 G h0 a0 f0 A0) s.heap := ⟨hP, hD⟩
  have hS : va_S DA s.heap s.heap [] := va_S.rf
  have hl : lv_has ls 6 [(0, .ref h0), (1, .int p1), (2, .int p2)] := hl
  obtain ⟨hx, hb, hml, hown, hts⟩ := C0.1
  have hK := C0.2.2.2.1
  unfold f10_alone at h
  refine lv_aload_n hx hb dX10_alone_0 rfl (lv_at hl 0 rfl) ?_
  refine lv_iload_n hx hb dX10_alone_1 rfl (lv_at hl 1 rfl) ?_
  refine kVI (As := [.int p1]) (rest := []) C0 (kt_X10_isTold l G h0 a0 f0 A0 p1) gi_V_X10_128_X10_isTold (n := 1) rfl (by decide +kernel) rfl ⟨rfl, rfl, Nat.le_of_ble_eq_true rfl, Nat.le_of_ble_eq_true rfl⟩ hPD hS 0 10 rfl rfl rfl [0, 1, 2, 3, 4, 5, 6, 7, 8, 9, 10, 11, 12, 13, 14, 15, 16, 17, 18, 19, 20, 21, 22, 23, 24, 25, 26, 27, 28, 29, 30, 31, 32, 33] [] [0, 1, 2, 3, 4, 5, 6, 7, 8, 9, 10, 11, 12, 13, 14, 15, 16, 17, 18, 19, 20, 21, 22, 23, 24, 25, 26, 27, 28, 29, 30, 31, 32, 33] (wr := ([] : va_W)) (wN := (wX10 G h0 a0 f0 A0)) rfl rfl rfl rfl rfl hl.1 (Nat.le_of_ble_eq_true rfl) dX10_alone_2 (fun H locs hPD hS => ?_)
  refine lv_if_eq (tgt := 19) hx hb dX10_alone_5 (by decide) (fun cc1 => ?_) (fun cc1 => ?_)
  · have h := (if_pos cc1).symm.trans h
    refine lv_iconst (v := (-1)) hx hb dX10_alone_19 (by decide) ?_
    obtain rfl := Option.some.inj h
    exact eI C0 hPD.1 hPD.2 hS rfl dX10_alone_20
  · have h := (if_neg cc1).symm.trans h
    refine lv_iload_n hx hb dX10_alone_8 rfl (lv_at hl 2 rfl) ?_
    refine lv_iconst (v := 1) hx hb dX10_alone_9 (by decide) ?_
    refine lv_sipush (v := 240) hx hb dX10_alone_10 (by decide) ?_
    refine kSI (As := [.int p2, .int 1, .int 240]) (rest := []) C0 (kt_X10_in l G  p2 1 240) gi_S_X10_112_X10_in (n := 3) rfl (by decide +kernel) ⟨rfl, rfl, Nat.le_of_ble_eq_true rfl, Nat.le_of_ble_eq_true rfl⟩ hPD hS [] [0, 1, 2, 3, 4, 5, 6, 7, 8, 9, 10, 11, 12, 13, 14, 15, 16, 17, 18, 19, 20, 21, 22, 23, 24, 25, 26, 27, 28, 29, 30, 31, 32, 33] [0, 1, 2, 3, 4, 5, 6, 7, 8, 9, 10, 11, 12, 13, 14, 15, 16, 17, 18, 19, 20, 21, 22, 23, 24, 25, 26, 27, 28, 29, 30, 31, 32, 33] (wr := (wX10 G h0 a0 f0 A0)) (wN := (wX10 G h0 a0 f0 A0)) rfl rfl rfl rfl rfl hl.1 (Nat.le_of_ble_eq_true rfl) dX10_alone_13 (fun H locs hPD hS => ?_)
    refine lv_if_ne (tgt := 21) hx hb dX10_alone_16 (by decide) (fun cc1 => ?_) (fun cc1 => ?_)
    · have h := (if_neg cc1).symm.trans h
      refine lv_aload_n hx hb dX10_alone_21 rfl (lv_at hl 0 rfl) ?_
      refine va_get (D := G.1) (ci := 10) (v := .ref (a0 0)) (C := RX10) (T := TX10) (N := 52) hx hb hts inlX10 hown hK hPD.1 0 rfl rfl 0 (by decide) (hts _ gw_536) (fun _ h9 => h9) rfl dX10_alone_22 ?_
      refine lv_aload_n hx hb dX10_alone_25 rfl (lv_at hl 0 rfl) ?_
      refine va_get (D := G.1) (ci := 10) (v := .ref (a0 1)) (C := RX10) (T := TX10) (N := 52) hx hb hts inlX10 hown hK hPD.1 0 rfl rfl 1 (by decide) (hts _ gw_716) (fun _ h9 => h9) rfl dX10_alone_26 ?_
      obtain ⟨q_1, hq_1, h⟩ := ob2 h
      refine kSV (As := [.ref (a0 0), .ref (a0 1)]) (rest := []) C0 (kt_X10_copies l G (a0 0) (a0 1) 76 (A0 0) 76 (A0 1) (by decide) (by decide) hq_1) gi_S_X10_290_X10_copies (n := 2) rfl (by decide +kernel) ⟨rfl, rfl, Nat.le_of_ble_eq_true rfl, Nat.le_of_ble_eq_true rfl⟩ hPD hS [1, 2] [0, 3, 4, 5, 6, 7, 8, 9, 10, 11, 12, 13, 14, 15, 16, 17, 18, 19, 20, 21, 22, 23, 24, 25, 26, 27, 28, 29, 30, 31, 32, 33] [0, 32, 33, 1, 2, 3, 4, 5, 6, 7, 8, 9, 10, 11, 12, 13, 14, 15, 16, 17, 18, 19, 20, 21, 22, 23, 24, 25, 26, 27, 28, 29, 30, 31] (wr := pick (wX10 G h0 a0 f0 A0) [0, 3, 4, 5, 6, 7, 8, 9, 10, 11, 12, 13, 14, 15, 16, 17, 18, 19, 20, 21, 22, 23, 24, 25, 26, 27, 28, 29, 30, 31, 32, 33]) (wN := (wX10 G h0 a0 f0 (updA A0 1 q_1))) rfl rfl rfl rfl rfl hl.1 (Nat.le_of_ble_eq_true rfl) dX10_alone_29 (fun H locs hPD hS => ?_)
      obtain ⟨A0_2, eA0_2, h⟩ := lvl h
      have hPD : WD G DA (wX10 G h0 a0 f0 A0_2) H := by rw [eA0_2]; exact hPD
      clear eA0_2
      refine lv_iconst (v := 0) hx hb dX10_alone_32 (by decide) ?_
      refine lv_istore_n (lv' := [(3, .int 0), (0, .ref h0), (1, .int p1), (2, .int p2)]) hx hb dX10_alone_33 rfl hl (by decide) rfl (fun ls hl => ?_)
      refine lv_iconst (v := 0) hx hb dX10_alone_34 (by decide) ?_
      refine lv_istore (lv' := [(4, .int 0), (3, .int 0), (0, .ref h0), (1, .int p1), (2, .int p2)]) hx hb dX10_alone_35 hl (by decide) rfl (fun ls hl => ?_)
      refine lv_iconst (v := 0) hx hb dX10_alone_37 (by decide) ?_
      refine lv_istore (lv' := [(5, .int 0), (4, .int 0), (3, .int 0), (0, .ref h0), (1, .int p1), (2, .int p2)]) hx hb dX10_alone_38 hl (by decide) rfl (fun ls hl => ?_)
      exact ww_f10_alone_l40 C0 NF A0_2 f0 0 0 0 h _ _ _ hPD hS (lv_sub hl [3, 4, 5, 2, 1, 0] rfl)
    · have h := (if_pos cc1).symm.trans h
      refine lv_iconst (v := (-1)) hx hb dX10_alone_19 (by decide) ?_
      obtain rfl := Option.some.inj h
      exact eI C0 hPD.1 hPD.2 hS rfl dX10_alone_20
abbrev rmX10_together : Room := { frames := 8, cells := 0, slots := 0, locals := 177 }
set_option maxRecDepth 100000 in
set_option maxHeartbeats 4000000 in
theorem ww_f10_together_b127  (C0 : Cx cX10_together 6 (some .int) RX10 p s m args meth c G DA) {h0 : Nat} {a0 : Nat → Nat} {p1 : Int32} {p2 : Int32} {p3 : Int32}   {res : Int32 × (Nat → Nat → Int32) × (Nat → Int32)}  : ∀ (A0 : Nat → Nat → Int32) (f0 : Nat → Int32) (l4 : Int32) (s0 : Int32), f10_together_b127 p1 p2 p3  A0 f0 l4 s0 = some res → ∀ (H : Heap) (locs : List Loc) (ls : Array Slot), WD G DA (wX10 G h0 a0 f0 A0) H → va_S DA s.heap H locs → lv_has ls 6 [(0, .ref h0), (1, .int p1), (2, .int p2), (3, .int p3), (4, .int l4)] → W p l e rmX10_together s m args below meth c H locs 0 0 (MQ below (QI G DA res.1 (wX10 G h0 a0 res.2.2 res.2.1)) args s 0 0 DA) (F0 m 127 ls [.int s0]) := by
  obtain ⟨hx, hb, hml, hown, hts⟩ := C0.1
  have hK := C0.2.2.2.1
  intro A0 f0 l4 s0 h _ _ _ hPD hS hl
  unfold f10_together_b127 at h
  refine lv_istore (lv' := [(5, .int s0), (0, .ref h0), (1, .int p1), (2, .int p2), (3, .int p3), (4, .int l4)]) hx hb dX10_together_127 hl (by decide) rfl (fun ls hl => ?_)
  refine lv_aload_n hx hb dX10_together_129 rfl (lv_at hl 1 rfl) ?_
  refine va_get (D := G.1) (ci := 10) (v := .ref (a0 1)) (C := RX10) (T := TX10) (N := 52) hx hb hts inlX10 hown hK hPD.1 0 rfl rfl 1 (by decide) (hts _ gw_716) (fun _ h9 => h9) rfl dX10_together_130 ?_
  refine lv_aload_n hx hb dX10_together_133 rfl (lv_at hl 1 rfl) ?_
  refine va_get (D := G.1) (ci := 10) (v := .ref (a0 0)) (C := RX10) (T := TX10) (N := 52) hx hb hts inlX10 hown hK hPD.1 0 rfl rfl 0 (by decide) (hts _ gw_536) (fun _ h9 => h9) rfl dX10_together_134 ?_
  obtain ⟨q_9, hq_9, h⟩ := ob2 h
  refine kSV (As := [.ref (a0 1), .ref (a0 0)]) (rest := []) C0 (kt_X10_copies l G (a0 1) (a0 0) 76 (A0 1) 76 (A0 0) (by decide) (by decide) hq_9) gi_S_X10_290_X10_copies (n := 2) rfl (by decide +kernel) ⟨rfl, rfl, Nat.le_of_ble_eq_true rfl, Nat.le_of_ble_eq_true rfl⟩ hPD hS [2, 1] [0, 3, 4, 5, 6, 7, 8, 9, 10, 11, 12, 13, 14, 15, 16, 17, 18, 19, 20, 21, 22, 23, 24, 25, 26, 27, 28, 29, 30, 31, 32, 33] [0, 33, 32, 1, 2, 3, 4, 5, 6, 7, 8, 9, 10, 11, 12, 13, 14, 15, 16, 17, 18, 19, 20, 21, 22, 23, 24, 25, 26, 27, 28, 29, 30, 31] (wr := pick (wX10 G h0 a0 f0 A0) [0, 3, 4, 5, 6, 7, 8, 9, 10, 11, 12, 13, 14, 15, 16, 17, 18, 19, 20, 21, 22, 23, 24, 25, 26, 27, 28, 29, 30, 31, 32, 33]) (wN := (wX10 G h0 a0 f0 (updA A0 0 q_9))) rfl rfl rfl rfl rfl hl.1 (Nat.le_of_ble_eq_true rfl) dX10_together_137 (fun H locs hPD hS => ?_)
  obtain ⟨A0_10, eA0_10, h⟩ := lvl h
  have hPD : WD G DA (wX10 G h0 a0 f0 A0_10) H := by rw [eA0_10]; exact hPD
  clear eA0_10
  refine lv_iload hx hb dX10_together_140 (lv_at hl 0 rfl) ?_
  refine lv_if_eq (tgt := 150) hx hb dX10_together_142 (by decide) (fun cc1 => ?_) (fun cc1 => ?_)
  · have h := (if_pos cc1).symm.trans h
    refine lv_bipush (v := (-2)) hx hb dX10_together_150 (by decide) ?_
    obtain rfl := Option.some.inj h
    exact eI C0 hPD.1 hPD.2 hS rfl dX10_together_152
  · have h := (if_neg cc1).symm.trans h
    refine lv_iload hx hb dX10_together_145 (lv_at hl 5 rfl) ?_
    refine lv_goto (tgt := 152) hx hb dX10_together_147 (by decide) ?_
    obtain rfl := Option.some.inj h
    exact eI C0 hPD.1 hPD.2 hS rfl dX10_together_152
set_option maxRecDepth 100000 in
set_option maxHeartbeats 4000000 in
theorem ww_f10_together_b101  (C0 : Cx cX10_together 6 (some .int) RX10 p s m args meth c G DA) {h0 : Nat} {a0 : Nat → Nat} {p1 : Int32} {p2 : Int32} {p3 : Int32}   {res : Int32 × (Nat → Nat → Int32) × (Nat → Int32)}  : ∀ (A0 : Nat → Nat → Int32) (f0 : Nat → Int32) (l4 : Int32), f10_together_b101 p1 p2 p3  A0 f0 l4 = some res → ∀ (H : Heap) (locs : List Loc) (ls : Array Slot), WD G DA (wX10 G h0 a0 f0 A0) H → va_S DA s.heap H locs → lv_has ls 6 [(0, .ref h0), (1, .int p1), (2, .int p2), (3, .int p3), (4, .int l4)] → W p l e rmX10_together s m args below meth c H locs 0 0 (MQ below (QI G DA res.1 (wX10 G h0 a0 res.2.2 res.2.1)) args s 0 0 DA) (F0 m 101 ls []) := by
  obtain ⟨hx, hb, hml, hown, hts⟩ := C0.1
  have hK := C0.2.2.2.1
  intro A0 f0 l4 h _ _ _ hPD hS hl
  unfold f10_together_b101 at h
  refine lv_aload_n hx hb dX10_together_101 rfl (lv_at hl 0 rfl) ?_
  refine va_get (D := G.1) (ci := 10) (v := .ref (a0 0)) (C := RX10) (T := TX10) (N := 52) hx hb hts inlX10 hown hK hPD.1 0 rfl rfl 0 (by decide) (hts _ gw_536) (fun _ h9 => h9) rfl dX10_together_102 ?_
  refine lv_bipush (v := 56) hx hb dX10_together_105 (by decide) ?_
  refine lv_iload_n hx hb dX10_together_107 rfl (lv_at hl 1 rfl) ?_
  refine lv_iadd hx hb dX10_together_108 ?_
  obtain ⟨hi_7, h⟩ := ob h
  refine va_iald hx hb hK hPD.1 1 1 rfl rfl hi_7 dX10_together_109 ?_
  refine lv_aload_n hx hb dX10_together_110 rfl (lv_at hl 0 rfl) ?_
  refine va_get (D := G.1) (ci := 10) (v := .ref (a0 0)) (C := RX10) (T := TX10) (N := 52) hx hb hts inlX10 hown hK hPD.1 0 rfl rfl 0 (by decide) (hts _ gw_536) (fun _ h9 => h9) rfl dX10_together_111 ?_
  refine lv_bipush (v := 56) hx hb dX10_together_114 (by decide) ?_
  refine lv_iload_n hx hb dX10_together_116 rfl (lv_at hl 2 rfl) ?_
  refine lv_iadd hx hb dX10_together_117 ?_
  obtain ⟨hi_8, h⟩ := ob h
  refine va_iald hx hb hK hPD.1 1 1 rfl rfl hi_8 dX10_together_118 ?_
  refine lv_icmp_ne (tgt := 126) hx hb dX10_together_119 (by decide) (fun cc1 => ?_) (fun cc1 => ?_)
  · have h := (if_neg cc1).symm.trans h
    refine lv_iconst (v := 0) hx hb dX10_together_126 (by decide) ?_
    exact ww_f10_together_b127 C0 A0 f0 l4 0 h _ _ _ hPD hS (lv_sub hl [0, 1, 2, 3, 4] rfl)
  · have h := (if_pos cc1).symm.trans h
    refine lv_iconst (v := 1) hx hb dX10_together_122 (by decide) ?_
    refine lv_goto (tgt := 127) hx hb dX10_together_123 (by decide) ?_
    exact ww_f10_together_b127 C0 A0 f0 l4 1 h _ _ _ hPD hS (lv_sub hl [0, 1, 2, 3, 4] rfl)
set_option maxRecDepth 100000 in
set_option maxHeartbeats 4000000 in
theorem ww_f10_together_b48  (C0 : Cx cX10_together 6 (some .int) RX10 p s m args meth c G DA) {h0 : Nat} {a0 : Nat → Nat} {p1 : Int32} {p2 : Int32} {p3 : Int32}  {k48 : (Nat → Nat → Int32) → (Nat → Int32) → Int32 → Option (Int32 × (Nat → Nat → Int32) × (Nat → Int32))} {res : Int32 × (Nat → Nat → Int32) × (Nat → Int32)}  (hk48 : ∀ (A0 : Nat → Nat → Int32) (f0 : Nat → Int32) (l4 : Int32), k48 A0 f0 l4 = some res → ∀ (H : Heap) (locs : List Loc) (ls : Array Slot), WD G DA (wX10 G h0 a0 f0 A0) H → va_S DA s.heap H locs → lv_has ls 6 [(0, .ref h0), (1, .int p1), (2, .int p2), (3, .int p3), (4, .int l4)] → W p l e rmX10_together s m args below meth c H locs 0 0 (MQ below (QI G DA res.1 (wX10 G h0 a0 res.2.2 res.2.1)) args s 0 0 DA) (F0 m 48 ls [])) : ∀ (A0 : Nat → Nat → Int32) (f0 : Nat → Int32) (l4 : Int32), f10_together_b48 p1 p2 p3  k48 A0 f0 l4 = some res → ∀ (H : Heap) (locs : List Loc) (ls : Array Slot), WD G DA (wX10 G h0 a0 f0 A0) H → va_S DA s.heap H locs → lv_has ls 6 [(0, .ref h0), (1, .int p1), (2, .int p2), (3, .int p3), (4, .int l4)] → W p l e rmX10_together s m args below meth c H locs 0 0 (MQ below (QI G DA res.1 (wX10 G h0 a0 res.2.2 res.2.1)) args s 0 0 DA) (F0 m 48 ls []) := by
  obtain ⟨hx, hb, hml, hown, hts⟩ := C0.1
  have hK := C0.2.2.2.1
  intro A0 f0 l4 h _ _ _ hPD hS hl
  unfold f10_together_b48 at h
  refine lv_aload_n hx hb dX10_together_48 rfl (lv_at hl 0 rfl) ?_
  refine va_get (D := G.1) (ci := 10) (v := .ref (a0 0)) (C := RX10) (T := TX10) (N := 52) hx hb hts inlX10 hown hK hPD.1 0 rfl rfl 0 (by decide) (hts _ gw_536) (fun _ h9 => h9) rfl dX10_together_49 ?_
  refine lv_bipush (v := 56) hx hb dX10_together_52 (by decide) ?_
  refine lv_iload_n hx hb dX10_together_54 rfl (lv_at hl 1 rfl) ?_
  refine lv_iadd hx hb dX10_together_55 ?_
  obtain ⟨hi_5, h⟩ := ob h
  refine va_iald hx hb hK hPD.1 1 1 rfl rfl hi_5 dX10_together_56 ?_
  refine lv_aload_n hx hb dX10_together_57 rfl (lv_at hl 0 rfl) ?_
  refine va_get (D := G.1) (ci := 10) (v := .ref (a0 0)) (C := RX10) (T := TX10) (N := 52) hx hb hts inlX10 hown hK hPD.1 0 rfl rfl 0 (by decide) (hts _ gw_536) (fun _ h9 => h9) rfl dX10_together_58 ?_
  refine lv_bipush (v := 56) hx hb dX10_together_61 (by decide) ?_
  refine lv_iload_n hx hb dX10_together_63 rfl (lv_at hl 2 rfl) ?_
  refine lv_iadd hx hb dX10_together_64 ?_
  obtain ⟨hi_6, h⟩ := ob h
  refine va_iald hx hb hK hPD.1 1 1 rfl rfl hi_6 dX10_together_65 ?_
  refine lv_icmp_eq (tgt := 101) hx hb dX10_together_66 (by decide) (fun cc1 => ?_) (fun cc1 => ?_)
  · have h := (if_pos cc1).symm.trans h
    exact ww_f10_together_b101 C0 A0 f0 l4 h _ _ _ hPD hS (lv_sub hl [0, 1, 2, 3, 4] rfl)
  · have h := (if_neg cc1).symm.trans h
    refine lv_iload hx hb dX10_together_69 (lv_at hl 4 rfl) ?_
    refine lv_iload_n hx hb dX10_together_71 rfl (lv_at hl 3 rfl) ?_
    refine lv_icmp_ge (tgt := 101) hx hb dX10_together_72 (by decide) (fun cc1 => ?_) (fun cc1 => ?_)
    · have h := (if_pos cc1).symm.trans h
      exact ww_f10_together_b101 C0 A0 f0 l4 h _ _ _ hPD hS (lv_sub hl [0, 1, 2, 3, 4] rfl)
    · have h := (if_neg cc1).symm.trans h
      refine lv_aload_n hx hb dX10_together_75 rfl (lv_at hl 0 rfl) ?_
      refine va_get (D := G.1) (ci := 10) (v := .ref (a0 0)) (C := RX10) (T := TX10) (N := 52) hx hb hts inlX10 hown hK hPD.1 0 rfl rfl 0 (by decide) (hts _ gw_536) (fun _ h9 => h9) rfl dX10_together_76 ?_
      refine lv_bipush (v := 74) hx hb dX10_together_79 (by decide) ?_
      refine va_iald hx hb hK hPD.1 1 1 rfl rfl (vin rfl) dX10_together_81 ?_
      refine lv_sipush (v := 9999) hx hb dX10_together_82 (by decide) ?_
      refine lv_icmp_ge (tgt := 101) hx hb dX10_together_85 (by decide) (fun cc1 => ?_) (fun cc1 => ?_)
      · have h := (if_pos cc1).symm.trans h
        exact ww_f10_together_b101 C0 A0 f0 l4 h _ _ _ hPD hS (lv_sub hl [0, 1, 2, 3, 4] rfl)
      · have h := (if_neg cc1).symm.trans h
        refine lv_aload_n hx hb dX10_together_88 rfl (lv_at hl 0 rfl) ?_
        obtain ⟨q_11, hq_11, h⟩ := ob2 h
        refine kVV (As := []) (rest := []) C0 (kt_X10_hourGoes l G h0 a0 f0 A0 hq_11) gi_V_X10_323_X10_hourGoes (n := 0) rfl (by decide +kernel) rfl ⟨rfl, rfl, Nat.le_of_ble_eq_true rfl, Nat.le_of_ble_eq_true rfl⟩ hPD hS 0 10 rfl rfl rfl [0, 1, 2, 3, 4, 5, 6, 7, 8, 9, 10, 11, 12, 13, 14, 15, 16, 17, 18, 19, 20, 21, 22, 23, 24, 25, 26, 27, 28, 29, 30, 31, 32, 33] [] [0, 1, 2, 3, 4, 5, 6, 7, 8, 9, 10, 11, 12, 13, 14, 15, 16, 17, 18, 19, 20, 21, 22, 23, 24, 25, 26, 27, 28, 29, 30, 31, 32, 33] (wr := ([] : va_W)) (wN := (wX10 G h0 a0 q_11.2 q_11.1)) rfl rfl rfl rfl rfl hl.1 (Nat.le_of_ble_eq_true rfl) dX10_together_89 (fun H locs hPD hS => ?_)
        refine lv_iload hx hb dX10_together_92 (lv_at hl 4 rfl) ?_
        refine lv_iconst (v := 1) hx hb dX10_together_94 (by decide) ?_
        refine lv_iadd hx hb dX10_together_95 ?_
        refine lv_istore (lv' := [(4, .int (l4 + 1)), (0, .ref h0), (1, .int p1), (2, .int p2), (3, .int p3)]) hx hb dX10_together_96 hl (by decide) rfl (fun ls hl => ?_)
        refine lv_goto (tgt := 48) hx hb dX10_together_98 (by decide) ?_
        exact hk48 q_11.1 q_11.2 (l4 + 1) h _ _ _ hPD hS (lv_sub hl [1, 2, 3, 4, 0] rfl)
set_option maxRecDepth 100000 in
set_option maxHeartbeats 4000000 in
theorem ww_f10_together_l48  (C0 : Cx cX10_together 6 (some .int) RX10 p s m args meth c G DA) {h0 : Nat} {a0 : Nat → Nat} {p1 : Int32} {p2 : Int32} {p3 : Int32}   {res : Int32 × (Nat → Nat → Int32) × (Nat → Int32)}  : ∀ (n : Nat) (A0 : Nat → Nat → Int32) (f0 : Nat → Int32) (l4 : Int32), f10_together_l48 p1 p2 p3  n A0 f0 l4 = some res → ∀ (H : Heap) (locs : List Loc) (ls : Array Slot), WD G DA (wX10 G h0 a0 f0 A0) H → va_S DA s.heap H locs → lv_has ls 6 [(0, .ref h0), (1, .int p1), (2, .int p2), (3, .int p3), (4, .int l4)] → W p l e rmX10_together s m args below meth c H locs 0 0 (MQ below (QI G DA res.1 (wX10 G h0 a0 res.2.2 res.2.1)) args s 0 0 DA) (F0 m 48 ls []) := by
  intro n
  induction n with
  | zero => intro A0 f0 l4 h; cases h
  | succ n ih => intro A0 f0 l4 h; exact ww_f10_together_b48 C0  ih A0 f0 l4 h
set_option maxRecDepth 100000 in
set_option maxHeartbeats 4000000 in
theorem kt_X10_together (l : Launch) (G : Gp) (h0 : Nat) (a0 : Nat → Nat) (f0 : Nat → Int32) (A0 : Nat → Nat → Int32) (p1 : Int32) (p2 : Int32) (p3 : Int32) : ∀ {r : Int32 × (Nat → Nat → Int32) × (Nat → Int32)}, f10_together f0 A0 p1 p2 p3 = some r → CtrI l yX10_together cX10_together 6 (some .int) rmX10_together G [.ref h0, .int p1, .int p2, .int p3] (wX10 G h0 a0 f0 A0) r.1 (wX10 G h0 a0 r.2.2 r.2.1) := by
  intro res h
  refine ctrI_of (cc := cX10_together) (maxL := 6) (ret := (some .int)) (by decide +kernel) rfl (Nat.le_of_ble_eq_true rfl) (fun p e s m below meth c DA C0 hP hD ls hl => ?_)
  have hPD : WD G DA (wX10 G h0 a0 f0 A0) s.heap := ⟨hP, hD⟩
  have hS : va_S DA s.heap s.heap [] := va_S.rf
  have hl : lv_has ls 6 [(0, .ref h0), (1, .int p1), (2, .int p2), (3, .int p3)] := hl
  obtain ⟨hx, hb, hml, hown, hts⟩ := C0.1
  have hK := C0.2.2.2.1
  unfold f10_together at h
  refine lv_aload_n hx hb dX10_together_0 rfl (lv_at hl 0 rfl) ?_
  refine lv_iload_n hx hb dX10_together_1 rfl (lv_at hl 1 rfl) ?_
  obtain ⟨q_1, hq_1, h⟩ := ob2 h
  refine kVI (As := [.int p1]) (rest := []) C0 (kt_X10_isMan l G h0 a0 f0 A0 p1 hq_1) gi_V_X10_124_X10_isMan (n := 1) rfl (by decide +kernel) rfl ⟨rfl, rfl, Nat.le_of_ble_eq_true rfl, Nat.le_of_ble_eq_true rfl⟩ hPD hS 0 10 rfl rfl rfl [0, 1, 2, 3, 4, 5, 6, 7, 8, 9, 10, 11, 12, 13, 14, 15, 16, 17, 18, 19, 20, 21, 22, 23, 24, 25, 26, 27, 28, 29, 30, 31, 32, 33] [] [0, 1, 2, 3, 4, 5, 6, 7, 8, 9, 10, 11, 12, 13, 14, 15, 16, 17, 18, 19, 20, 21, 22, 23, 24, 25, 26, 27, 28, 29, 30, 31, 32, 33] (wr := ([] : va_W)) (wN := (wX10 G h0 a0 f0 A0)) rfl rfl rfl rfl rfl hl.1 (Nat.le_of_ble_eq_true rfl) dX10_together_2 (fun H locs hPD hS => ?_)
  refine lv_if_eq (tgt := 32) hx hb dX10_together_5 (by decide) (fun cc1 => ?_) (fun cc1 => ?_)
  · have h := (if_pos cc1).symm.trans h
    refine lv_iconst (v := (-1)) hx hb dX10_together_32 (by decide) ?_
    obtain rfl := Option.some.inj h
    exact eI C0 hPD.1 hPD.2 hS rfl dX10_together_33
  · have h := (if_neg cc1).symm.trans h
    refine lv_aload_n hx hb dX10_together_8 rfl (lv_at hl 0 rfl) ?_
    refine lv_iload_n hx hb dX10_together_9 rfl (lv_at hl 2 rfl) ?_
    obtain ⟨q_2, hq_2, h⟩ := ob2 h
    refine kVI (As := [.int p2]) (rest := []) C0 (kt_X10_isMan l G h0 a0 f0 A0 p2 hq_2) gi_V_X10_124_X10_isMan (n := 1) rfl (by decide +kernel) rfl ⟨rfl, rfl, Nat.le_of_ble_eq_true rfl, Nat.le_of_ble_eq_true rfl⟩ hPD hS 0 10 rfl rfl rfl [0, 1, 2, 3, 4, 5, 6, 7, 8, 9, 10, 11, 12, 13, 14, 15, 16, 17, 18, 19, 20, 21, 22, 23, 24, 25, 26, 27, 28, 29, 30, 31, 32, 33] [] [0, 1, 2, 3, 4, 5, 6, 7, 8, 9, 10, 11, 12, 13, 14, 15, 16, 17, 18, 19, 20, 21, 22, 23, 24, 25, 26, 27, 28, 29, 30, 31, 32, 33] (wr := ([] : va_W)) (wN := (wX10 G h0 a0 f0 A0)) rfl rfl rfl rfl rfl hl.1 (Nat.le_of_ble_eq_true rfl) dX10_together_10 (fun H locs hPD hS => ?_)
    refine lv_if_eq (tgt := 32) hx hb dX10_together_13 (by decide) (fun cc1 => ?_) (fun cc1 => ?_)
    · have h := (if_pos cc1).symm.trans h
      refine lv_iconst (v := (-1)) hx hb dX10_together_32 (by decide) ?_
      obtain rfl := Option.some.inj h
      exact eI C0 hPD.1 hPD.2 hS rfl dX10_together_33
    · have h := (if_neg cc1).symm.trans h
      refine lv_iload_n hx hb dX10_together_16 rfl (lv_at hl 1 rfl) ?_
      refine lv_iload_n hx hb dX10_together_17 rfl (lv_at hl 2 rfl) ?_
      refine lv_icmp_eq (tgt := 32) hx hb dX10_together_18 (by decide) (fun cc1 => ?_) (fun cc1 => ?_)
      · have h := (if_pos cc1).symm.trans h
        refine lv_iconst (v := (-1)) hx hb dX10_together_32 (by decide) ?_
        obtain rfl := Option.some.inj h
        exact eI C0 hPD.1 hPD.2 hS rfl dX10_together_33
      · have h := (if_neg cc1).symm.trans h
        refine lv_iload_n hx hb dX10_together_21 rfl (lv_at hl 3 rfl) ?_
        refine lv_iconst (v := 1) hx hb dX10_together_22 (by decide) ?_
        refine lv_sipush (v := 240) hx hb dX10_together_23 (by decide) ?_
        refine kSI (As := [.int p3, .int 1, .int 240]) (rest := []) C0 (kt_X10_in l G  p3 1 240) gi_S_X10_112_X10_in (n := 3) rfl (by decide +kernel) ⟨rfl, rfl, Nat.le_of_ble_eq_true rfl, Nat.le_of_ble_eq_true rfl⟩ hPD hS [] [0, 1, 2, 3, 4, 5, 6, 7, 8, 9, 10, 11, 12, 13, 14, 15, 16, 17, 18, 19, 20, 21, 22, 23, 24, 25, 26, 27, 28, 29, 30, 31, 32, 33] [0, 1, 2, 3, 4, 5, 6, 7, 8, 9, 10, 11, 12, 13, 14, 15, 16, 17, 18, 19, 20, 21, 22, 23, 24, 25, 26, 27, 28, 29, 30, 31, 32, 33] (wr := (wX10 G h0 a0 f0 A0)) (wN := (wX10 G h0 a0 f0 A0)) rfl rfl rfl rfl rfl hl.1 (Nat.le_of_ble_eq_true rfl) dX10_together_26 (fun H locs hPD hS => ?_)
        refine lv_if_ne (tgt := 34) hx hb dX10_together_29 (by decide) (fun cc1 => ?_) (fun cc1 => ?_)
        · have h := (if_neg cc1).symm.trans h
          refine lv_aload_n hx hb dX10_together_34 rfl (lv_at hl 0 rfl) ?_
          refine va_get (D := G.1) (ci := 10) (v := .ref (a0 0)) (C := RX10) (T := TX10) (N := 52) hx hb hts inlX10 hown hK hPD.1 0 rfl rfl 0 (by decide) (hts _ gw_536) (fun _ h9 => h9) rfl dX10_together_35 ?_
          refine lv_aload_n hx hb dX10_together_38 rfl (lv_at hl 0 rfl) ?_
          refine va_get (D := G.1) (ci := 10) (v := .ref (a0 1)) (C := RX10) (T := TX10) (N := 52) hx hb hts inlX10 hown hK hPD.1 0 rfl rfl 1 (by decide) (hts _ gw_716) (fun _ h9 => h9) rfl dX10_together_39 ?_
          obtain ⟨q_3, hq_3, h⟩ := ob2 h
          refine kSV (As := [.ref (a0 0), .ref (a0 1)]) (rest := []) C0 (kt_X10_copies l G (a0 0) (a0 1) 76 (A0 0) 76 (A0 1) (by decide) (by decide) hq_3) gi_S_X10_290_X10_copies (n := 2) rfl (by decide +kernel) ⟨rfl, rfl, Nat.le_of_ble_eq_true rfl, Nat.le_of_ble_eq_true rfl⟩ hPD hS [1, 2] [0, 3, 4, 5, 6, 7, 8, 9, 10, 11, 12, 13, 14, 15, 16, 17, 18, 19, 20, 21, 22, 23, 24, 25, 26, 27, 28, 29, 30, 31, 32, 33] [0, 32, 33, 1, 2, 3, 4, 5, 6, 7, 8, 9, 10, 11, 12, 13, 14, 15, 16, 17, 18, 19, 20, 21, 22, 23, 24, 25, 26, 27, 28, 29, 30, 31] (wr := pick (wX10 G h0 a0 f0 A0) [0, 3, 4, 5, 6, 7, 8, 9, 10, 11, 12, 13, 14, 15, 16, 17, 18, 19, 20, 21, 22, 23, 24, 25, 26, 27, 28, 29, 30, 31, 32, 33]) (wN := (wX10 G h0 a0 f0 (updA A0 1 q_3))) rfl rfl rfl rfl rfl hl.1 (Nat.le_of_ble_eq_true rfl) dX10_together_42 (fun H locs hPD hS => ?_)
          obtain ⟨A0_4, eA0_4, h⟩ := lvl h
          have hPD : WD G DA (wX10 G h0 a0 f0 A0_4) H := by rw [eA0_4]; exact hPD
          clear eA0_4
          refine lv_iconst (v := 0) hx hb dX10_together_45 (by decide) ?_
          refine lv_istore (lv' := [(4, .int 0), (0, .ref h0), (1, .int p1), (2, .int p2), (3, .int p3)]) hx hb dX10_together_46 hl (by decide) rfl (fun ls hl => ?_)
          exact ww_f10_together_l48 C0 NF A0_4 f0 0 h _ _ _ hPD hS (lv_sub hl [1, 2, 3, 4, 0] rfl)
        · have h := (if_pos cc1).symm.trans h
          refine lv_iconst (v := (-1)) hx hb dX10_together_32 (by decide) ?_
          obtain rfl := Option.some.inj h
          exact eI C0 hPD.1 hPD.2 hS rfl dX10_together_33
abbrev rmX10_seen : Room := { frames := 8, cells := 0, slots := 0, locals := 177 }
set_option maxRecDepth 100000 in
set_option maxHeartbeats 4000000 in
theorem ww_f10_seen_b63  (C0 : Cx cX10_seen 4 (some .int) RX10 p s m args meth c G DA) {h0 : Nat} {a0 : Nat → Nat} {p1 : Int32}   {res : Int32 × (Nat → Nat → Int32) × (Nat → Int32)}  : ∀ (A0 : Nat → Nat → Int32) (f0 : Nat → Int32) (l2 : Int32), f10_seen_b63 p1  A0 f0 l2 = some res → ∀ (H : Heap) (locs : List Loc) (ls : Array Slot), WD G DA (wX10 G h0 a0 f0 A0) H → va_S DA s.heap H locs → lv_has ls 4 [(0, .ref h0), (1, .int p1), (2, .int l2)] → W p l e rmX10_seen s m args below meth c H locs 0 0 (MQ below (QI G DA res.1 (wX10 G h0 a0 res.2.2 res.2.1)) args s 0 0 DA) (F0 m 63 ls []) := by
  obtain ⟨hx, hb, hml, hown, hts⟩ := C0.1
  have hK := C0.2.2.2.1
  intro A0 f0 l2 h _ _ _ hPD hS hl
  unfold f10_seen_b63 at h
  refine lv_aload_n hx hb dX10_seen_63 rfl (lv_at hl 0 rfl) ?_
  refine va_get (D := G.1) (ci := 10) (v := .ref (a0 1)) (C := RX10) (T := TX10) (N := 52) hx hb hts inlX10 hown hK hPD.1 0 rfl rfl 1 (by decide) (hts _ gw_716) (fun _ h9 => h9) rfl dX10_seen_64 ?_
  refine lv_aload_n hx hb dX10_seen_67 rfl (lv_at hl 0 rfl) ?_
  refine va_get (D := G.1) (ci := 10) (v := .ref (a0 0)) (C := RX10) (T := TX10) (N := 52) hx hb hts inlX10 hown hK hPD.1 0 rfl rfl 0 (by decide) (hts _ gw_536) (fun _ h9 => h9) rfl dX10_seen_68 ?_
  obtain ⟨q_3, hq_3, h⟩ := ob2 h
  refine kSV (As := [.ref (a0 1), .ref (a0 0)]) (rest := []) C0 (kt_X10_copies l G (a0 1) (a0 0) 76 (A0 1) 76 (A0 0) (by decide) (by decide) hq_3) gi_S_X10_290_X10_copies (n := 2) rfl (by decide +kernel) ⟨rfl, rfl, Nat.le_of_ble_eq_true rfl, Nat.le_of_ble_eq_true rfl⟩ hPD hS [2, 1] [0, 3, 4, 5, 6, 7, 8, 9, 10, 11, 12, 13, 14, 15, 16, 17, 18, 19, 20, 21, 22, 23, 24, 25, 26, 27, 28, 29, 30, 31, 32, 33] [0, 33, 32, 1, 2, 3, 4, 5, 6, 7, 8, 9, 10, 11, 12, 13, 14, 15, 16, 17, 18, 19, 20, 21, 22, 23, 24, 25, 26, 27, 28, 29, 30, 31] (wr := pick (wX10 G h0 a0 f0 A0) [0, 3, 4, 5, 6, 7, 8, 9, 10, 11, 12, 13, 14, 15, 16, 17, 18, 19, 20, 21, 22, 23, 24, 25, 26, 27, 28, 29, 30, 31, 32, 33]) (wN := (wX10 G h0 a0 f0 (updA A0 0 q_3))) rfl rfl rfl rfl rfl hl.1 (Nat.le_of_ble_eq_true rfl) dX10_seen_71 (fun H locs hPD hS => ?_)
  obtain ⟨A0_4, eA0_4, h⟩ := lvl h
  have hPD : WD G DA (wX10 G h0 a0 f0 A0_4) H := by rw [eA0_4]; exact hPD
  clear eA0_4
  refine lv_iload_n hx hb dX10_seen_74 rfl (lv_at hl 2 rfl) ?_
  obtain rfl := Option.some.inj h
  exact eI C0 hPD.1 hPD.2 hS rfl dX10_seen_75
set_option maxRecDepth 100000 in
set_option maxHeartbeats 4000000 in
theorem ww_f10_seen_b28  (C0 : Cx cX10_seen 4 (some .int) RX10 p s m args meth c G DA) {h0 : Nat} {a0 : Nat → Nat} {p1 : Int32}  {k28 : (Nat → Nat → Int32) → (Nat → Int32) → Int32 → Int32 → Option (Int32 × (Nat → Nat → Int32) × (Nat → Int32))} {res : Int32 × (Nat → Nat → Int32) × (Nat → Int32)}  (hk28 : ∀ (A0 : Nat → Nat → Int32) (f0 : Nat → Int32) (l2 : Int32) (l3 : Int32), k28 A0 f0 l2 l3 = some res → ∀ (H : Heap) (locs : List Loc) (ls : Array Slot), WD G DA (wX10 G h0 a0 f0 A0) H → va_S DA s.heap H locs → lv_has ls 4 [(0, .ref h0), (1, .int p1), (2, .int l2), (3, .int l3)] → W p l e rmX10_seen s m args below meth c H locs 0 0 (MQ below (QI G DA res.1 (wX10 G h0 a0 res.2.2 res.2.1)) args s 0 0 DA) (F0 m 28 ls [])) : ∀ (A0 : Nat → Nat → Int32) (f0 : Nat → Int32) (l2 : Int32) (l3 : Int32), f10_seen_b28 p1  k28 A0 f0 l2 l3 = some res → ∀ (H : Heap) (locs : List Loc) (ls : Array Slot), WD G DA (wX10 G h0 a0 f0 A0) H → va_S DA s.heap H locs → lv_has ls 4 [(0, .ref h0), (1, .int p1), (2, .int l2), (3, .int l3)] → W p l e rmX10_seen s m args below meth c H locs 0 0 (MQ below (QI G DA res.1 (wX10 G h0 a0 res.2.2 res.2.1)) args s 0 0 DA) (F0 m 28 ls []) := by
  obtain ⟨hx, hb, hml, hown, hts⟩ := C0.1
  have hK := C0.2.2.2.1
  intro A0 f0 l2 l3 h _ _ _ hPD hS hl
  unfold f10_seen_b28 at h
  refine lv_iload_n hx hb dX10_seen_28 rfl (lv_at hl 3 rfl) ?_
  refine lv_iload_n hx hb dX10_seen_29 rfl (lv_at hl 1 rfl) ?_
  refine lv_icmp_ge (tgt := 63) hx hb dX10_seen_30 (by decide) (fun cc1 => ?_) (fun cc1 => ?_)
  · have h := (if_pos cc1).symm.trans h
    exact ww_f10_seen_b63 C0 A0 f0 l2 h _ _ _ hPD hS (lv_sub hl [0, 1, 2] rfl)
  · have h := (if_neg cc1).symm.trans h
    refine lv_aload_n hx hb dX10_seen_33 rfl (lv_at hl 0 rfl) ?_
    refine va_get (D := G.1) (ci := 10) (v := .ref (a0 0)) (C := RX10) (T := TX10) (N := 52) hx hb hts inlX10 hown hK hPD.1 0 rfl rfl 0 (by decide) (hts _ gw_536) (fun _ h9 => h9) rfl dX10_seen_34 ?_
    refine lv_bipush (v := 74) hx hb dX10_seen_37 (by decide) ?_
    refine va_iald hx hb hK hPD.1 1 1 rfl rfl (vin rfl) dX10_seen_39 ?_
    refine lv_sipush (v := 9999) hx hb dX10_seen_40 (by decide) ?_
    refine lv_icmp_ge (tgt := 63) hx hb dX10_seen_43 (by decide) (fun cc1 => ?_) (fun cc1 => ?_)
    · have h := (if_pos cc1).symm.trans h
      exact ww_f10_seen_b63 C0 A0 f0 l2 h _ _ _ hPD hS (lv_sub hl [0, 1, 2] rfl)
    · have h := (if_neg cc1).symm.trans h
      refine lv_aload_n hx hb dX10_seen_46 rfl (lv_at hl 0 rfl) ?_
      obtain ⟨q_5, hq_5, h⟩ := ob2 h
      refine kVV (As := []) (rest := []) C0 (kt_X10_hourGoes l G h0 a0 f0 A0 hq_5) gi_V_X10_323_X10_hourGoes (n := 0) rfl (by decide +kernel) rfl ⟨rfl, rfl, Nat.le_of_ble_eq_true rfl, Nat.le_of_ble_eq_true rfl⟩ hPD hS 0 10 rfl rfl rfl [0, 1, 2, 3, 4, 5, 6, 7, 8, 9, 10, 11, 12, 13, 14, 15, 16, 17, 18, 19, 20, 21, 22, 23, 24, 25, 26, 27, 28, 29, 30, 31, 32, 33] [] [0, 1, 2, 3, 4, 5, 6, 7, 8, 9, 10, 11, 12, 13, 14, 15, 16, 17, 18, 19, 20, 21, 22, 23, 24, 25, 26, 27, 28, 29, 30, 31, 32, 33] (wr := ([] : va_W)) (wN := (wX10 G h0 a0 q_5.2 q_5.1)) rfl rfl rfl rfl rfl hl.1 (Nat.le_of_ble_eq_true rfl) dX10_seen_47 (fun H locs hPD hS => ?_)
      refine lv_iload_n hx hb dX10_seen_50 rfl (lv_at hl 2 rfl) ?_
      refine lv_aload_n hx hb dX10_seen_51 rfl (lv_at hl 0 rfl) ?_
      obtain ⟨q_6, hq_6, h⟩ := ob2 h
      refine kVI (As := []) (rest := [.int l2]) C0 (kt_X10_guarded l G h0 a0 q_5.2 q_5.1 hq_6) gi_V_X10_332_X10_guarded (n := 0) rfl (by decide +kernel) rfl ⟨rfl, rfl, Nat.le_of_ble_eq_true rfl, Nat.le_of_ble_eq_true rfl⟩ hPD hS 0 10 rfl rfl rfl [0, 1, 2, 3, 4, 5, 6, 7, 8, 9, 10, 11, 12, 13, 14, 15, 16, 17, 18, 19, 20, 21, 22, 23, 24, 25, 26, 27, 28, 29, 30, 31, 32, 33] [] [0, 1, 2, 3, 4, 5, 6, 7, 8, 9, 10, 11, 12, 13, 14, 15, 16, 17, 18, 19, 20, 21, 22, 23, 24, 25, 26, 27, 28, 29, 30, 31, 32, 33] (wr := ([] : va_W)) (wN := (wX10 G h0 a0 q_5.2 q_5.1)) rfl rfl rfl rfl rfl hl.1 (Nat.le_of_ble_eq_true rfl) dX10_seen_52 (fun H locs hPD hS => ?_)
      refine lv_ior hx hb dX10_seen_55 ?_
      refine lv_istore_n (lv' := [(2, .int (l2 ||| q_6)), (0, .ref h0), (1, .int p1), (3, .int l3)]) hx hb dX10_seen_56 rfl hl (by decide) rfl (fun ls hl => ?_)
      refine lv_iinc (v := l3 + 1) (lv' := [(3, .int (l3 + 1)), (2, .int (l2 ||| q_6)), (0, .ref h0), (1, .int p1)]) hx hb dX10_seen_57 hl (k := 3) rfl rfl (by decide) rfl (fun ls hl => ?_)
      refine lv_goto (tgt := 28) hx hb dX10_seen_60 (by decide) ?_
      exact hk28 q_5.1 q_5.2 (l2 ||| q_6) (l3 + 1) h _ _ _ hPD hS (lv_sub hl [2, 3, 1, 0] rfl)
set_option maxRecDepth 100000 in
set_option maxHeartbeats 4000000 in
theorem ww_f10_seen_l28  (C0 : Cx cX10_seen 4 (some .int) RX10 p s m args meth c G DA) {h0 : Nat} {a0 : Nat → Nat} {p1 : Int32}   {res : Int32 × (Nat → Nat → Int32) × (Nat → Int32)}  : ∀ (n : Nat) (A0 : Nat → Nat → Int32) (f0 : Nat → Int32) (l2 : Int32) (l3 : Int32), f10_seen_l28 p1  n A0 f0 l2 l3 = some res → ∀ (H : Heap) (locs : List Loc) (ls : Array Slot), WD G DA (wX10 G h0 a0 f0 A0) H → va_S DA s.heap H locs → lv_has ls 4 [(0, .ref h0), (1, .int p1), (2, .int l2), (3, .int l3)] → W p l e rmX10_seen s m args below meth c H locs 0 0 (MQ below (QI G DA res.1 (wX10 G h0 a0 res.2.2 res.2.1)) args s 0 0 DA) (F0 m 28 ls []) := by
  intro n
  induction n with
  | zero => intro A0 f0 l2 l3 h; cases h
  | succ n ih => intro A0 f0 l2 l3 h; exact ww_f10_seen_b28 C0  ih A0 f0 l2 l3 h
set_option maxRecDepth 100000 in
set_option maxHeartbeats 4000000 in
theorem kt_X10_seen (l : Launch) (G : Gp) (h0 : Nat) (a0 : Nat → Nat) (f0 : Nat → Int32) (A0 : Nat → Nat → Int32) (p1 : Int32) : ∀ {r : Int32 × (Nat → Nat → Int32) × (Nat → Int32)}, f10_seen f0 A0 p1 = some r → CtrI l yX10_seen cX10_seen 4 (some .int) rmX10_seen G [.ref h0, .int p1] (wX10 G h0 a0 f0 A0) r.1 (wX10 G h0 a0 r.2.2 r.2.1) := by
  intro res h
  refine ctrI_of (cc := cX10_seen) (maxL := 4) (ret := (some .int)) (by decide +kernel) rfl (Nat.le_of_ble_eq_true rfl) (fun p e s m below meth c DA C0 hP hD ls hl => ?_)
  have hPD : WD G DA (wX10 G h0 a0 f0 A0) s.heap := ⟨hP, hD⟩
  have hS : va_S DA s.heap s.heap [] := va_S.rf
  have hl : lv_has ls 4 [(0, .ref h0), (1, .int p1)] := hl
  obtain ⟨hx, hb, hml, hown, hts⟩ := C0.1
  have hK := C0.2.2.2.1
  unfold f10_seen at h
  refine lv_iload_n hx hb dX10_seen_0 rfl (lv_at hl 1 rfl) ?_
  refine lv_iconst (v := 1) hx hb dX10_seen_1 (by decide) ?_
  refine lv_sipush (v := 240) hx hb dX10_seen_2 (by decide) ?_
  refine kSI (As := [.int p1, .int 1, .int 240]) (rest := []) C0 (kt_X10_in l G  p1 1 240) gi_S_X10_112_X10_in (n := 3) rfl (by decide +kernel) ⟨rfl, rfl, Nat.le_of_ble_eq_true rfl, Nat.le_of_ble_eq_true rfl⟩ hPD hS [] [0, 1, 2, 3, 4, 5, 6, 7, 8, 9, 10, 11, 12, 13, 14, 15, 16, 17, 18, 19, 20, 21, 22, 23, 24, 25, 26, 27, 28, 29, 30, 31, 32, 33] [0, 1, 2, 3, 4, 5, 6, 7, 8, 9, 10, 11, 12, 13, 14, 15, 16, 17, 18, 19, 20, 21, 22, 23, 24, 25, 26, 27, 28, 29, 30, 31, 32, 33] (wr := (wX10 G h0 a0 f0 A0)) (wN := (wX10 G h0 a0 f0 A0)) rfl rfl rfl rfl rfl hl.1 (Nat.le_of_ble_eq_true rfl) dX10_seen_5 (fun H locs hPD hS => ?_)
  refine lv_if_ne (tgt := 13) hx hb dX10_seen_8 (by decide) (fun cc1 => ?_) (fun cc1 => ?_)
  · have h := (if_neg cc1).symm.trans h
    refine lv_aload_n hx hb dX10_seen_13 rfl (lv_at hl 0 rfl) ?_
    refine va_get (D := G.1) (ci := 10) (v := .ref (a0 0)) (C := RX10) (T := TX10) (N := 52) hx hb hts inlX10 hown hK hPD.1 0 rfl rfl 0 (by decide) (hts _ gw_536) (fun _ h9 => h9) rfl dX10_seen_14 ?_
    refine lv_aload_n hx hb dX10_seen_17 rfl (lv_at hl 0 rfl) ?_
    refine va_get (D := G.1) (ci := 10) (v := .ref (a0 1)) (C := RX10) (T := TX10) (N := 52) hx hb hts inlX10 hown hK hPD.1 0 rfl rfl 1 (by decide) (hts _ gw_716) (fun _ h9 => h9) rfl dX10_seen_18 ?_
    obtain ⟨q_1, hq_1, h⟩ := ob2 h
    refine kSV (As := [.ref (a0 0), .ref (a0 1)]) (rest := []) C0 (kt_X10_copies l G (a0 0) (a0 1) 76 (A0 0) 76 (A0 1) (by decide) (by decide) hq_1) gi_S_X10_290_X10_copies (n := 2) rfl (by decide +kernel) ⟨rfl, rfl, Nat.le_of_ble_eq_true rfl, Nat.le_of_ble_eq_true rfl⟩ hPD hS [1, 2] [0, 3, 4, 5, 6, 7, 8, 9, 10, 11, 12, 13, 14, 15, 16, 17, 18, 19, 20, 21, 22, 23, 24, 25, 26, 27, 28, 29, 30, 31, 32, 33] [0, 32, 33, 1, 2, 3, 4, 5, 6, 7, 8, 9, 10, 11, 12, 13, 14, 15, 16, 17, 18, 19, 20, 21, 22, 23, 24, 25, 26, 27, 28, 29, 30, 31] (wr := pick (wX10 G h0 a0 f0 A0) [0, 3, 4, 5, 6, 7, 8, 9, 10, 11, 12, 13, 14, 15, 16, 17, 18, 19, 20, 21, 22, 23, 24, 25, 26, 27, 28, 29, 30, 31, 32, 33]) (wN := (wX10 G h0 a0 f0 (updA A0 1 q_1))) rfl rfl rfl rfl rfl hl.1 (Nat.le_of_ble_eq_true rfl) dX10_seen_21 (fun H locs hPD hS => ?_)
    obtain ⟨A0_2, eA0_2, h⟩ := lvl h
    have hPD : WD G DA (wX10 G h0 a0 f0 A0_2) H := by rw [eA0_2]; exact hPD
    clear eA0_2
    refine lv_iconst (v := 0) hx hb dX10_seen_24 (by decide) ?_
    refine lv_istore_n (lv' := [(2, .int 0), (0, .ref h0), (1, .int p1)]) hx hb dX10_seen_25 rfl hl (by decide) rfl (fun ls hl => ?_)
    refine lv_iconst (v := 0) hx hb dX10_seen_26 (by decide) ?_
    refine lv_istore_n (lv' := [(3, .int 0), (2, .int 0), (0, .ref h0), (1, .int p1)]) hx hb dX10_seen_27 rfl hl (by decide) rfl (fun ls hl => ?_)
    exact ww_f10_seen_l28 C0 NF A0_2 f0 0 0 h _ _ _ hPD hS (lv_sub hl [2, 3, 1, 0] rfl)
  · have h := (if_pos cc1).symm.trans h
    refine lv_iconst (v := (-1)) hx hb dX10_seen_11 (by decide) ?_
    obtain rfl := Option.some.inj h
    exact eI C0 hPD.1 hPD.2 hS rfl dX10_seen_12
abbrev rmX10_quiet : Room := { frames := 8, cells := 0, slots := 0, locals := 177 }
set_option maxRecDepth 100000 in
set_option maxHeartbeats 4000000 in
theorem ww_f10_quiet_b86  (C0 : Cx cX10_quiet 5 (some .int) RX10 p s m args meth c G DA) {h0 : Nat} {a0 : Nat → Nat} {p1 : Int32}   {res : Int32 × (Nat → Nat → Int32) × (Nat → Int32)}  : ∀ (A0 : Nat → Nat → Int32) (f0 : Nat → Int32) (l3 : Int32), f10_quiet_b86 p1  A0 f0 l3 = some res → ∀ (H : Heap) (locs : List Loc) (ls : Array Slot), WD G DA (wX10 G h0 a0 f0 A0) H → va_S DA s.heap H locs → lv_has ls 5 [(0, .ref h0), (1, .int p1), (3, .int l3)] → W p l e rmX10_quiet s m args below meth c H locs 0 0 (MQ below (QI G DA res.1 (wX10 G h0 a0 res.2.2 res.2.1)) args s 0 0 DA) (F0 m 86 ls []) := by
  obtain ⟨hx, hb, hml, hown, hts⟩ := C0.1
  have hK := C0.2.2.2.1
  intro A0 f0 l3 h _ _ _ hPD hS hl
  unfold f10_quiet_b86 at h
  refine lv_aload_n hx hb dX10_quiet_86 rfl (lv_at hl 0 rfl) ?_
  refine va_get (D := G.1) (ci := 10) (v := .ref (a0 1)) (C := RX10) (T := TX10) (N := 52) hx hb hts inlX10 hown hK hPD.1 0 rfl rfl 1 (by decide) (hts _ gw_716) (fun _ h9 => h9) rfl dX10_quiet_87 ?_
  refine lv_aload_n hx hb dX10_quiet_90 rfl (lv_at hl 0 rfl) ?_
  refine va_get (D := G.1) (ci := 10) (v := .ref (a0 0)) (C := RX10) (T := TX10) (N := 52) hx hb hts inlX10 hown hK hPD.1 0 rfl rfl 0 (by decide) (hts _ gw_536) (fun _ h9 => h9) rfl dX10_quiet_91 ?_
  obtain ⟨q_3, hq_3, h⟩ := ob2 h
  refine kSV (As := [.ref (a0 1), .ref (a0 0)]) (rest := []) C0 (kt_X10_copies l G (a0 1) (a0 0) 76 (A0 1) 76 (A0 0) (by decide) (by decide) hq_3) gi_S_X10_290_X10_copies (n := 2) rfl (by decide +kernel) ⟨rfl, rfl, Nat.le_of_ble_eq_true rfl, Nat.le_of_ble_eq_true rfl⟩ hPD hS [2, 1] [0, 3, 4, 5, 6, 7, 8, 9, 10, 11, 12, 13, 14, 15, 16, 17, 18, 19, 20, 21, 22, 23, 24, 25, 26, 27, 28, 29, 30, 31, 32, 33] [0, 33, 32, 1, 2, 3, 4, 5, 6, 7, 8, 9, 10, 11, 12, 13, 14, 15, 16, 17, 18, 19, 20, 21, 22, 23, 24, 25, 26, 27, 28, 29, 30, 31] (wr := pick (wX10 G h0 a0 f0 A0) [0, 3, 4, 5, 6, 7, 8, 9, 10, 11, 12, 13, 14, 15, 16, 17, 18, 19, 20, 21, 22, 23, 24, 25, 26, 27, 28, 29, 30, 31, 32, 33]) (wN := (wX10 G h0 a0 f0 (updA A0 0 q_3))) rfl rfl rfl rfl rfl hl.1 (Nat.le_of_ble_eq_true rfl) dX10_quiet_94 (fun H locs hPD hS => ?_)
  obtain ⟨A0_4, eA0_4, h⟩ := lvl h
  have hPD : WD G DA (wX10 G h0 a0 f0 A0_4) H := by rw [eA0_4]; exact hPD
  clear eA0_4
  refine lv_iload_n hx hb dX10_quiet_97 rfl (lv_at hl 2 rfl) ?_
  obtain rfl := Option.some.inj h
  exact eI C0 hPD.1 hPD.2 hS rfl dX10_quiet_98
end WALK
