section WALK
variable {p : Program} {l : Launch} {e : Env} {s : State} {m : MethodId} {args : Array Value} {below : List Frame} {meth : Method} {c : Code} {G : Gp} {DA : Nat → Prop}
set_option maxRecDepth 100000 in
set_option maxHeartbeats 4000000 in
theorem ww_f10_watches_l23  (C0 : Cx cX10_watches 5 (some .int) RX10 p s m args meth c G DA) {h0 : Nat} {a0 : Nat → Nat} {f0 : Nat → Int32} {p1 : Int32}   {res : Int32 × (Nat → Nat → Int32)}  : ∀ (n : Nat) (A0 : Nat → Nat → Int32) (l2 : Int32) (l3 : Int32) (l4 : Int32), f10_watches_l23 f0 p1  n A0 l2 l3 l4 = some res → ∀ (H : Heap) (locs : List Loc) (ls : Array Slot), WD G DA (wX10 G h0 a0 f0 A0) H → va_S DA s.heap H locs → lv_has ls 5 [(0, .ref h0), (1, .int p1), (2, .int l2), (3, .int l3), (4, .int l4)] → W p l e rmX10_watches s m args below meth c H locs 0 0 (MQ below (QI G DA res.1 (wX10 G h0 a0 f0 res.2)) args s 0 0 DA) (F0 m 23 ls []) := by
  intro n
  induction n with
  | zero => intro A0 l2 l3 l4 h; cases h
  | succ n ih => intro A0 l2 l3 l4 h; exact ww_f10_watches_b23 C0  ih A0 l2 l3 l4 h
set_option maxRecDepth 100000 in
set_option maxHeartbeats 4000000 in
theorem kt_X10_watches (l : Launch) (G : Gp) (h0 : Nat) (a0 : Nat → Nat) (f0 : Nat → Int32) (A0 : Nat → Nat → Int32) (p1 : Int32) : ∀ {r : Int32 × (Nat → Nat → Int32)}, f10_watches f0 A0 p1 = some r → CtrI l yX10_watches cX10_watches 5 (some .int) rmX10_watches G [.ref h0, .int p1] (wX10 G h0 a0 f0 A0) r.1 (wX10 G h0 a0 f0 r.2) := by
  intro res h
  refine ctrI_of (cc := cX10_watches) (maxL := 5) (ret := (some .int)) (by decide +kernel) rfl (Nat.le_of_ble_eq_true rfl) (fun p e s m below meth c DA C0 hP hD ls hl => ?_)
  have hPD : WD G DA (wX10 G h0 a0 f0 A0) s.heap := ⟨hP, hD⟩
  have hS : va_S DA s.heap s.heap [] := va_S.rf
  have hl : lv_has ls 5 [(0, .ref h0), (1, .int p1)] := hl
  obtain ⟨hx, hb, hml, hown, hts⟩ := C0.1
  have hK := C0.2.2.2.1
  unfold f10_watches at h
  refine lv_iload_n hx hb dX10_watches_0 rfl (lv_at hl 1 rfl) ?_
  refine lv_bipush (v := 100) hx hb dX10_watches_1 (by decide) ?_
  refine lv_icmp_eq (tgt := 16) hx hb dX10_watches_3 (by decide) (fun cc1 => ?_) (fun cc1 => ?_)
  · have h := (if_pos cc1).symm.trans h
    refine lv_iconst (v := 0) hx hb dX10_watches_16 (by decide) ?_
    refine lv_istore_n (lv' := [(2, .int 0), (0, .ref h0), (1, .int p1)]) hx hb dX10_watches_17 rfl hl (by decide) rfl (fun ls hl => ?_)
    refine lv_iconst (v := (-1)) hx hb dX10_watches_18 (by decide) ?_
    refine lv_istore_n (lv' := [(3, .int (-1)), (2, .int 0), (0, .ref h0), (1, .int p1)]) hx hb dX10_watches_19 rfl hl (by decide) rfl (fun ls hl => ?_)
    refine lv_iconst (v := 0) hx hb dX10_watches_20 (by decide) ?_
    refine lv_istore (lv' := [(4, .int 0), (3, .int (-1)), (2, .int 0), (0, .ref h0), (1, .int p1)]) hx hb dX10_watches_21 hl (by decide) rfl (fun ls hl => ?_)
    exact ww_f10_watches_l23 C0 NF A0 0 (-1) 0 h _ _ _ hPD hS (lv_sub hl [3, 4, 2, 1, 0] rfl)
  · have h := (if_neg cc1).symm.trans h
    refine lv_aload_n hx hb dX10_watches_6 rfl (lv_at hl 0 rfl) ?_
    refine lv_iload_n hx hb dX10_watches_7 rfl (lv_at hl 1 rfl) ?_
    refine kVI (As := [.int p1]) (rest := []) C0 (kt_X10_isTold l G h0 a0 f0 A0 p1) gi_V_X10_128_X10_isTold (n := 1) rfl (by decide +kernel) rfl ⟨rfl, rfl, Nat.le_of_ble_eq_true rfl, Nat.le_of_ble_eq_true rfl⟩ hPD hS 0 10 rfl rfl rfl [0, 1, 2, 3, 4, 5, 6, 7, 8, 9, 10, 11, 12, 13, 14, 15, 16, 17, 18, 19, 20, 21, 22, 23, 24, 25, 26, 27, 28, 29, 30, 31, 32, 33] [] [0, 1, 2, 3, 4, 5, 6, 7, 8, 9, 10, 11, 12, 13, 14, 15, 16, 17, 18, 19, 20, 21, 22, 23, 24, 25, 26, 27, 28, 29, 30, 31, 32, 33] (wr := ([] : va_W)) (wN := (wX10 G h0 a0 f0 A0)) rfl rfl rfl rfl rfl hl.1 (Nat.le_of_ble_eq_true rfl) dX10_watches_8 (fun H locs hPD hS => ?_)
    refine lv_if_ne (tgt := 16) hx hb dX10_watches_11 (by decide) (fun cc1 => ?_) (fun cc1 => ?_)
    · have h := (if_neg cc1).symm.trans h
      refine lv_iconst (v := 0) hx hb dX10_watches_16 (by decide) ?_
      refine lv_istore_n (lv' := [(2, .int 0), (0, .ref h0), (1, .int p1)]) hx hb dX10_watches_17 rfl hl (by decide) rfl (fun ls hl => ?_)
      refine lv_iconst (v := (-1)) hx hb dX10_watches_18 (by decide) ?_
      refine lv_istore_n (lv' := [(3, .int (-1)), (2, .int 0), (0, .ref h0), (1, .int p1)]) hx hb dX10_watches_19 rfl hl (by decide) rfl (fun ls hl => ?_)
      refine lv_iconst (v := 0) hx hb dX10_watches_20 (by decide) ?_
      refine lv_istore (lv' := [(4, .int 0), (3, .int (-1)), (2, .int 0), (0, .ref h0), (1, .int p1)]) hx hb dX10_watches_21 hl (by decide) rfl (fun ls hl => ?_)
      exact ww_f10_watches_l23 C0 NF A0 0 (-1) 0 h _ _ _ hPD hS (lv_sub hl [3, 4, 2, 1, 0] rfl)
    · have h := (if_pos cc1).symm.trans h
      refine lv_iconst (v := (-1)) hx hb dX10_watches_14 (by decide) ?_
      obtain rfl := Option.some.inj h
      exact eI C0 hPD.1 hPD.2 hS rfl dX10_watches_15
abbrev rmX10_way : Room := { frames := 2, cells := 0, slots := 0, locals := 46 }
set_option maxRecDepth 100000 in
set_option maxHeartbeats 4000000 in
theorem ww_f10_way_b89  (C0 : Cx cX10_way 8 (some .int) RX10 p s m args meth c G DA) {h0 : Nat} {a0 : Nat → Nat} {f0 : Nat → Int32} {p1 : Int32} {p2 : Int32} {p3 : Int32}  {k80 : (Nat → Nat → Int32) → Int32 → Int32 → Option (Int32 × (Nat → Nat → Int32))} {k89 : (Nat → Nat → Int32) → Int32 → Int32 → Int32 → Option (Int32 × (Nat → Nat → Int32))} {res : Int32 × (Nat → Nat → Int32)} (hk80 : ∀ (A0 : Nat → Nat → Int32) (l5 : Int32) (l6 : Int32), k80 A0 l5 l6 = some res → ∀ (H : Heap) (locs : List Loc) (ls : Array Slot), WD G DA (wX10 G h0 a0 f0 A0) H → va_S DA s.heap H locs → lv_has ls 8 [(0, .ref h0), (1, .int p1), (2, .int p2), (3, .int p3), (5, .int l5), (6, .int l6)] → W p l e rmX10_way s m args below meth c H locs 0 0 (MQ below (QI G DA res.1 (wX10 G h0 a0 f0 res.2)) args s 0 0 DA) (F0 m 80 ls [])) (hk89 : ∀ (A0 : Nat → Nat → Int32) (l5 : Int32) (l6 : Int32) (l7 : Int32), k89 A0 l5 l6 l7 = some res → ∀ (H : Heap) (locs : List Loc) (ls : Array Slot), WD G DA (wX10 G h0 a0 f0 A0) H → va_S DA s.heap H locs → lv_has ls 8 [(0, .ref h0), (1, .int p1), (2, .int p2), (3, .int p3), (5, .int l5), (6, .int l6), (7, .int l7)] → W p l e rmX10_way s m args below meth c H locs 0 0 (MQ below (QI G DA res.1 (wX10 G h0 a0 f0 res.2)) args s 0 0 DA) (F0 m 89 ls [])) : ∀ (A0 : Nat → Nat → Int32) (l5 : Int32) (l6 : Int32) (l7 : Int32), f10_way_b89 f0 p1 p2 p3 k80 k89 A0 l5 l6 l7 = some res → ∀ (H : Heap) (locs : List Loc) (ls : Array Slot), WD G DA (wX10 G h0 a0 f0 A0) H → va_S DA s.heap H locs → lv_has ls 8 [(0, .ref h0), (1, .int p1), (2, .int p2), (3, .int p3), (5, .int l5), (6, .int l6), (7, .int l7)] → W p l e rmX10_way s m args below meth c H locs 0 0 (MQ below (QI G DA res.1 (wX10 G h0 a0 f0 res.2)) args s 0 0 DA) (F0 m 89 ls []) := by
  obtain ⟨hx, hb, hml, hown, hts⟩ := C0.1
  have hK := C0.2.2.2.1
  intro A0 l5 l6 l7 h _ _ _ hPD hS hl
  unfold f10_way_b89 at h
  refine lv_aload_n hx hb dX10_way_89 rfl (lv_at hl 0 rfl) ?_
  refine va_get (D := G.1) (ci := 10) (v := .ref (a0 3)) (C := RX10) (T := TX10) (N := 52) hx hb hts inlX10 hown hK hPD.1 0 rfl rfl 3 (by decide) (hts _ gw_663) (fun _ h9 => h9) rfl dX10_way_90 ?_
  refine lv_iload hx hb dX10_way_93 (lv_at hl 4 rfl) ?_
  obtain ⟨hi_3, h⟩ := ob h
  refine va_iald hx hb hK hPD.1 4 1 rfl rfl hi_3 dX10_way_95 ?_
  refine lv_iload hx hb dX10_way_96 (lv_at hl 6 rfl) ?_
  refine kSI (As := [.int (gx (A0 3) l5), .int l7]) (rest := []) C0 (kt_X10_has l G  (gx (A0 3) l5) l7) gi_S_X10_120_X10_has (n := 2) rfl (by decide +kernel) ⟨rfl, rfl, Nat.le_of_ble_eq_true rfl, Nat.le_of_ble_eq_true rfl⟩ hPD hS [] [0, 1, 2, 3, 4, 5, 6, 7, 8, 9, 10, 11, 12, 13, 14, 15, 16, 17, 18, 19, 20, 21, 22, 23, 24, 25, 26, 27, 28, 29, 30, 31, 32, 33] [0, 1, 2, 3, 4, 5, 6, 7, 8, 9, 10, 11, 12, 13, 14, 15, 16, 17, 18, 19, 20, 21, 22, 23, 24, 25, 26, 27, 28, 29, 30, 31, 32, 33] (wr := (wX10 G h0 a0 f0 A0)) (wN := (wX10 G h0 a0 f0 A0)) rfl rfl rfl rfl rfl hl.1 (Nat.le_of_ble_eq_true rfl) dX10_way_98 (fun H locs hPD hS => ?_)
  refine lv_if_eq (tgt := 123) hx hb dX10_way_101 (by decide) (fun cc1 => ?_) (fun cc1 => ?_)
  · have h := (if_pos cc1).symm.trans h
    refine lv_iload hx hb dX10_way_123 (lv_at hl 6 rfl) ?_
    refine lv_iconst (v := 1) hx hb dX10_way_125 (by decide) ?_
    refine lv_iadd hx hb dX10_way_126 ?_
    refine lv_istore (lv' := [(7, .int (l7 + 1)), (0, .ref h0), (1, .int p1), (2, .int p2), (3, .int p3), (5, .int l5), (6, .int l6)]) hx hb dX10_way_127 hl (by decide) rfl (fun ls hl => ?_)
    refine lv_goto (tgt := 89) hx hb dX10_way_129 (by decide) ?_
    exact hk89 A0 l5 l6 (l7 + 1) h _ _ _ hPD hS (lv_sub hl [1, 2, 3, 4, 5, 6, 0] rfl)
  · have h := (if_neg cc1).symm.trans h
    refine lv_aload_n hx hb dX10_way_104 rfl (lv_at hl 0 rfl) ?_
    refine va_get (D := G.1) (ci := 10) (v := .ref (a0 46)) (C := RX10) (T := TX10) (N := 52) hx hb hts inlX10 hown hK hPD.1 0 rfl rfl 46 (by decide) (hts _ gw_783) (fun _ h9 => h9) rfl dX10_way_105 ?_
    refine lv_iload hx hb dX10_way_108 (lv_at hl 6 rfl) ?_
    obtain ⟨hi_4, h⟩ := ob h
    refine va_iald hx hb hK hPD.1 29 1 rfl rfl hi_4 dX10_way_110 ?_
    refine lv_aload_n hx hb dX10_way_111 rfl (lv_at hl 0 rfl) ?_
    refine va_get (D := G.1) (ci := 10) (v := .ref (a0 46)) (C := RX10) (T := TX10) (N := 52) hx hb hts inlX10 hown hK hPD.1 0 rfl rfl 46 (by decide) (hts _ gw_783) (fun _ h9 => h9) rfl dX10_way_112 ?_
    refine lv_iload hx hb dX10_way_115 (lv_at hl 4 rfl) ?_
    obtain ⟨hi_5, h⟩ := ob h
    refine va_iald hx hb hK hPD.1 29 1 rfl rfl hi_5 dX10_way_117 ?_
    refine lv_iconst (v := 1) hx hb dX10_way_118 (by decide) ?_
    refine lv_isub hx hb dX10_way_119 ?_
    refine lv_icmp_eq (tgt := 132) hx hb dX10_way_120 (by decide) (fun cc1 => ?_) (fun cc1 => ?_)
    · have h := (if_pos cc1).symm.trans h
      refine lv_iload hx hb dX10_way_132 (lv_at hl 6 rfl) ?_
      refine lv_istore (lv' := [(5, .int l7), (0, .ref h0), (1, .int p1), (2, .int p2), (3, .int p3), (6, .int l6), (7, .int l7)]) hx hb dX10_way_134 hl (by decide) rfl (fun ls hl => ?_)
      refine lv_iinc (v := l6 + 1) (lv' := [(6, .int (l6 + 1)), (5, .int l7), (0, .ref h0), (1, .int p1), (2, .int p2), (3, .int p3), (7, .int l7)]) hx hb dX10_way_136 hl (k := 5) rfl rfl (by decide) rfl (fun ls hl => ?_)
      refine lv_goto (tgt := 80) hx hb dX10_way_139 (by decide) ?_
      exact hk80 A0 l7 (l6 + 1) h _ _ _ hPD hS (lv_sub hl [2, 3, 4, 5, 1, 0] rfl)
    · have h := (if_neg cc1).symm.trans h
      refine lv_iload hx hb dX10_way_123 (lv_at hl 6 rfl) ?_
      refine lv_iconst (v := 1) hx hb dX10_way_125 (by decide) ?_
      refine lv_iadd hx hb dX10_way_126 ?_
      refine lv_istore (lv' := [(7, .int (l7 + 1)), (0, .ref h0), (1, .int p1), (2, .int p2), (3, .int p3), (5, .int l5), (6, .int l6)]) hx hb dX10_way_127 hl (by decide) rfl (fun ls hl => ?_)
      refine lv_goto (tgt := 89) hx hb dX10_way_129 (by decide) ?_
      exact hk89 A0 l5 l6 (l7 + 1) h _ _ _ hPD hS (lv_sub hl [1, 2, 3, 4, 5, 6, 0] rfl)
set_option maxRecDepth 100000 in
set_option maxHeartbeats 4000000 in
theorem ww_f10_way_l89  (C0 : Cx cX10_way 8 (some .int) RX10 p s m args meth c G DA) {h0 : Nat} {a0 : Nat → Nat} {f0 : Nat → Int32} {p1 : Int32} {p2 : Int32} {p3 : Int32}  {k80 : (Nat → Nat → Int32) → Int32 → Int32 → Option (Int32 × (Nat → Nat → Int32))} {res : Int32 × (Nat → Nat → Int32)} (hk80 : ∀ (A0 : Nat → Nat → Int32) (l5 : Int32) (l6 : Int32), k80 A0 l5 l6 = some res → ∀ (H : Heap) (locs : List Loc) (ls : Array Slot), WD G DA (wX10 G h0 a0 f0 A0) H → va_S DA s.heap H locs → lv_has ls 8 [(0, .ref h0), (1, .int p1), (2, .int p2), (3, .int p3), (5, .int l5), (6, .int l6)] → W p l e rmX10_way s m args below meth c H locs 0 0 (MQ below (QI G DA res.1 (wX10 G h0 a0 f0 res.2)) args s 0 0 DA) (F0 m 80 ls [])) : ∀ (n : Nat) (A0 : Nat → Nat → Int32) (l5 : Int32) (l6 : Int32) (l7 : Int32), f10_way_l89 f0 p1 p2 p3 k80 n A0 l5 l6 l7 = some res → ∀ (H : Heap) (locs : List Loc) (ls : Array Slot), WD G DA (wX10 G h0 a0 f0 A0) H → va_S DA s.heap H locs → lv_has ls 8 [(0, .ref h0), (1, .int p1), (2, .int p2), (3, .int p3), (5, .int l5), (6, .int l6), (7, .int l7)] → W p l e rmX10_way s m args below meth c H locs 0 0 (MQ below (QI G DA res.1 (wX10 G h0 a0 f0 res.2)) args s 0 0 DA) (F0 m 89 ls []) := by
  intro n
  induction n with
  | zero => intro A0 l5 l6 l7 h; cases h
  | succ n ih => intro A0 l5 l6 l7 h; exact ww_f10_way_b89 C0 hk80 ih A0 l5 l6 l7 h
set_option maxRecDepth 100000 in
set_option maxHeartbeats 4000000 in
theorem ww_f10_way_b80  (C0 : Cx cX10_way 8 (some .int) RX10 p s m args meth c G DA) {h0 : Nat} {a0 : Nat → Nat} {f0 : Nat → Int32} {p1 : Int32} {p2 : Int32} {p3 : Int32}  {k80 : (Nat → Nat → Int32) → Int32 → Int32 → Option (Int32 × (Nat → Nat → Int32))} {res : Int32 × (Nat → Nat → Int32)}  (hk80 : ∀ (A0 : Nat → Nat → Int32) (l5 : Int32) (l6 : Int32), k80 A0 l5 l6 = some res → ∀ (H : Heap) (locs : List Loc) (ls : Array Slot), WD G DA (wX10 G h0 a0 f0 A0) H → va_S DA s.heap H locs → lv_has ls 8 [(0, .ref h0), (1, .int p1), (2, .int p2), (3, .int p3), (5, .int l5), (6, .int l6)] → W p l e rmX10_way s m args below meth c H locs 0 0 (MQ below (QI G DA res.1 (wX10 G h0 a0 f0 res.2)) args s 0 0 DA) (F0 m 80 ls [])) : ∀ (A0 : Nat → Nat → Int32) (l5 : Int32) (l6 : Int32), f10_way_b80 f0 p1 p2 p3  k80 A0 l5 l6 = some res → ∀ (H : Heap) (locs : List Loc) (ls : Array Slot), WD G DA (wX10 G h0 a0 f0 A0) H → va_S DA s.heap H locs → lv_has ls 8 [(0, .ref h0), (1, .int p1), (2, .int p2), (3, .int p3), (5, .int l5), (6, .int l6)] → W p l e rmX10_way s m args below meth c H locs 0 0 (MQ below (QI G DA res.1 (wX10 G h0 a0 f0 res.2)) args s 0 0 DA) (F0 m 80 ls []) := by
  obtain ⟨hx, hb, hml, hown, hts⟩ := C0.1
  have hK := C0.2.2.2.1
  intro A0 l5 l6 h _ _ _ hPD hS hl
  unfold f10_way_b80 at h
  refine lv_iload hx hb dX10_way_80 (lv_at hl 5 rfl) ?_
  refine lv_iload_n hx hb dX10_way_82 rfl (lv_at hl 3 rfl) ?_
  refine lv_icmp_ge (tgt := 142) hx hb dX10_way_83 (by decide) (fun cc1 => ?_) (fun cc1 => ?_)
  · have h := (if_pos cc1).symm.trans h
    refine lv_iload hx hb dX10_way_142 (lv_at hl 4 rfl) ?_
    obtain rfl := Option.some.inj h
    exact eI C0 hPD.1 hPD.2 hS rfl dX10_way_144
  · have h := (if_neg cc1).symm.trans h
    refine lv_iconst (v := 0) hx hb dX10_way_86 (by decide) ?_
    refine lv_istore (lv' := [(7, .int 0), (0, .ref h0), (1, .int p1), (2, .int p2), (3, .int p3), (5, .int l5), (6, .int l6)]) hx hb dX10_way_87 hl (by decide) rfl (fun ls hl => ?_)
    exact ww_f10_way_l89 C0 hk80 NF A0 l5 l6 0 h _ _ _ hPD hS (lv_sub hl [1, 2, 3, 4, 5, 6, 0] rfl)
set_option maxRecDepth 100000 in
set_option maxHeartbeats 4000000 in
theorem ww_f10_way_l80  (C0 : Cx cX10_way 8 (some .int) RX10 p s m args meth c G DA) {h0 : Nat} {a0 : Nat → Nat} {f0 : Nat → Int32} {p1 : Int32} {p2 : Int32} {p3 : Int32}   {res : Int32 × (Nat → Nat → Int32)}  : ∀ (n : Nat) (A0 : Nat → Nat → Int32) (l5 : Int32) (l6 : Int32), f10_way_l80 f0 p1 p2 p3  n A0 l5 l6 = some res → ∀ (H : Heap) (locs : List Loc) (ls : Array Slot), WD G DA (wX10 G h0 a0 f0 A0) H → va_S DA s.heap H locs → lv_has ls 8 [(0, .ref h0), (1, .int p1), (2, .int p2), (3, .int p3), (5, .int l5), (6, .int l6)] → W p l e rmX10_way s m args below meth c H locs 0 0 (MQ below (QI G DA res.1 (wX10 G h0 a0 f0 res.2)) args s 0 0 DA) (F0 m 80 ls []) := by
  intro n
  induction n with
  | zero => intro A0 l5 l6 h; cases h
  | succ n ih => intro A0 l5 l6 h; exact ww_f10_way_b80 C0  ih A0 l5 l6 h
set_option maxRecDepth 100000 in
set_option maxHeartbeats 4000000 in
theorem ww_f10_way_b34  (C0 : Cx cX10_way 8 (some .int) RX10 p s m args meth c G DA) {h0 : Nat} {a0 : Nat → Nat} {f0 : Nat → Int32} {p1 : Int32} {p2 : Int32} {p3 : Int32}   {res : Int32 × (Nat → Nat → Int32)}  : ∀ (A0 : Nat → Nat → Int32), f10_way_b34 f0 p1 p2 p3  A0 = some res → ∀ (H : Heap) (locs : List Loc) (ls : Array Slot), WD G DA (wX10 G h0 a0 f0 A0) H → va_S DA s.heap H locs → lv_has ls 8 [(0, .ref h0), (1, .int p1), (2, .int p2), (3, .int p3)] → W p l e rmX10_way s m args below meth c H locs 0 0 (MQ below (QI G DA res.1 (wX10 G h0 a0 f0 res.2)) args s 0 0 DA) (F0 m 34 ls []) := by
  obtain ⟨hx, hb, hml, hown, hts⟩ := C0.1
  have hK := C0.2.2.2.1
  intro A0 h _ _ _ hPD hS hl
  unfold f10_way_b34 at h
  refine lv_aload_n hx hb dX10_way_34 rfl (lv_at hl 0 rfl) ?_
  refine lv_iload_n hx hb dX10_way_35 rfl (lv_at hl 2 rfl) ?_
  obtain ⟨q_1, hq_1, h⟩ := ob2 h
  refine kVV (As := [.int p2]) (rest := []) C0 (kt_X10_laysSteps l G h0 a0 f0 A0 p2 hq_1) gi_V_X10_344_X10_laysSteps (n := 1) rfl (by decide +kernel) rfl ⟨rfl, rfl, Nat.le_of_ble_eq_true rfl, Nat.le_of_ble_eq_true rfl⟩ hPD hS 0 10 rfl rfl rfl [0, 1, 2, 3, 4, 5, 6, 7, 8, 9, 10, 11, 12, 13, 14, 15, 16, 17, 18, 19, 20, 21, 22, 23, 24, 25, 26, 27, 28, 29, 30, 31, 32, 33] [] [0, 1, 2, 3, 4, 5, 6, 7, 8, 9, 10, 11, 12, 13, 14, 15, 16, 17, 18, 19, 20, 21, 22, 23, 24, 25, 26, 27, 28, 29, 30, 31, 32, 33] (wr := ([] : va_W)) (wN := (wX10 G h0 a0 f0 q_1)) rfl rfl rfl rfl rfl hl.1 (Nat.le_of_ble_eq_true rfl) dX10_way_36 (fun H locs hPD hS => ?_)
  refine lv_aload_n hx hb dX10_way_39 rfl (lv_at hl 0 rfl) ?_
  refine va_get (D := G.1) (ci := 10) (v := .ref (a0 46)) (C := RX10) (T := TX10) (N := 52) hx hb hts inlX10 hown hK hPD.1 0 rfl rfl 46 (by decide) (hts _ gw_783) (fun _ h9 => h9) rfl dX10_way_40 ?_
  refine lv_iload_n hx hb dX10_way_43 rfl (lv_at hl 1 rfl) ?_
  obtain ⟨hi_2, h⟩ := ob h
  refine va_iald hx hb hK hPD.1 29 1 rfl rfl hi_2 dX10_way_44 ?_
  refine lv_istore (lv' := [(4, .int (gx (q_1 46) p1)), (0, .ref h0), (1, .int p1), (2, .int p2), (3, .int p3)]) hx hb dX10_way_45 hl (by decide) rfl (fun ls hl => ?_)
  refine lv_iload hx hb dX10_way_47 (lv_at hl 0 rfl) ?_
  refine lv_iconst (v := (-1)) hx hb dX10_way_49 (by decide) ?_
  refine lv_icmp_ne (tgt := 56) hx hb dX10_way_50 (by decide) (fun cc1 => ?_) (fun cc1 => ?_)
  · have h := (if_neg cc1).symm.trans h
    refine lv_iload_n hx hb dX10_way_56 rfl (lv_at hl 4 rfl) ?_
    refine lv_bipush (v := 100) hx hb dX10_way_57 (by decide) ?_
    refine lv_icmp_ne (tgt := 65) hx hb dX10_way_59 (by decide) (fun cc1 => ?_) (fun cc1 => ?_)
    · have h := (if_neg cc1).symm.trans h
      refine lv_iload_n hx hb dX10_way_65 rfl (lv_at hl 4 rfl) ?_
      refine lv_iload hx hb dX10_way_66 (lv_at hl 0 rfl) ?_
      refine lv_icmp_le (tgt := 74) hx hb dX10_way_68 (by decide) (fun cc1 => ?_) (fun cc1 => ?_)
      · have h := (if_pos cc1).symm.trans h
        refine lv_iload_n hx hb dX10_way_74 rfl (lv_at hl 2 rfl) ?_
        refine lv_istore (lv' := [(5, .int p1), (4, .int (gx (q_1 46) p1)), (0, .ref h0), (1, .int p1), (2, .int p2), (3, .int p3)]) hx hb dX10_way_75 hl (by decide) rfl (fun ls hl => ?_)
        refine lv_iconst (v := 0) hx hb dX10_way_77 (by decide) ?_
        refine lv_istore (lv' := [(6, .int 0), (5, .int p1), (4, .int (gx (q_1 46) p1)), (0, .ref h0), (1, .int p1), (2, .int p2), (3, .int p3)]) hx hb dX10_way_78 hl (by decide) rfl (fun ls hl => ?_)
        exact ww_f10_way_l80 C0 NF q_1 p1 0 h _ _ _ hPD hS (lv_sub hl [3, 4, 5, 6, 1, 0] rfl)
      · have h := (if_neg cc1).symm.trans h
        refine lv_bipush (v := (-4)) hx hb dX10_way_71 (by decide) ?_
        obtain rfl := Option.some.inj h
        exact eI C0 hPD.1 hPD.2 hS rfl dX10_way_73
    · have h := (if_pos cc1).symm.trans h
      refine lv_iload hx hb dX10_way_62 (lv_at hl 0 rfl) ?_
      obtain rfl := Option.some.inj h
      exact eI C0 hPD.1 hPD.2 hS rfl dX10_way_64
  · have h := (if_pos cc1).symm.trans h
    refine lv_bipush (v := (-2)) hx hb dX10_way_53 (by decide) ?_
    obtain rfl := Option.some.inj h
    exact eI C0 hPD.1 hPD.2 hS rfl dX10_way_55
set_option maxRecDepth 100000 in
set_option maxHeartbeats 4000000 in
theorem kt_X10_way (l : Launch) (G : Gp) (h0 : Nat) (a0 : Nat → Nat) (f0 : Nat → Int32) (A0 : Nat → Nat → Int32) (p1 : Int32) (p2 : Int32) (p3 : Int32) : ∀ {r : Int32 × (Nat → Nat → Int32)}, f10_way f0 A0 p1 p2 p3 = some r → CtrI l yX10_way cX10_way 8 (some .int) rmX10_way G [.ref h0, .int p1, .int p2, .int p3] (wX10 G h0 a0 f0 A0) r.1 (wX10 G h0 a0 f0 r.2) := by
  intro res h
  refine ctrI_of (cc := cX10_way) (maxL := 8) (ret := (some .int)) (by decide +kernel) rfl (Nat.le_of_ble_eq_true rfl) (fun p e s m below meth c DA C0 hP hD ls hl => ?_)
  have hPD : WD G DA (wX10 G h0 a0 f0 A0) s.heap := ⟨hP, hD⟩
  have hS : va_S DA s.heap s.heap [] := va_S.rf
  have hl : lv_has ls 8 [(0, .ref h0), (1, .int p1), (2, .int p2), (3, .int p3)] := hl
  obtain ⟨hx, hb, hml, hown, hts⟩ := C0.1
  have hK := C0.2.2.2.1
  unfold f10_way at h
  refine lv_aload_n hx hb dX10_way_0 rfl (lv_at hl 0 rfl) ?_
  refine lv_iload_n hx hb dX10_way_1 rfl (lv_at hl 1 rfl) ?_
  refine kVI (As := [.int p1]) (rest := []) C0 (kt_X10_isTold l G h0 a0 f0 A0 p1) gi_V_X10_128_X10_isTold (n := 1) rfl (by decide +kernel) rfl ⟨rfl, rfl, Nat.le_of_ble_eq_true rfl, Nat.le_of_ble_eq_true rfl⟩ hPD hS 0 10 rfl rfl rfl [0, 1, 2, 3, 4, 5, 6, 7, 8, 9, 10, 11, 12, 13, 14, 15, 16, 17, 18, 19, 20, 21, 22, 23, 24, 25, 26, 27, 28, 29, 30, 31, 32, 33] [] [0, 1, 2, 3, 4, 5, 6, 7, 8, 9, 10, 11, 12, 13, 14, 15, 16, 17, 18, 19, 20, 21, 22, 23, 24, 25, 26, 27, 28, 29, 30, 31, 32, 33] (wr := ([] : va_W)) (wN := (wX10 G h0 a0 f0 A0)) rfl rfl rfl rfl rfl hl.1 (Nat.le_of_ble_eq_true rfl) dX10_way_2 (fun H locs hPD hS => ?_)
  refine lv_if_eq (tgt := 32) hx hb dX10_way_5 (by decide) (fun cc1 => ?_) (fun cc1 => ?_)
  · have h := (if_pos cc1).symm.trans h
    refine lv_iconst (v := (-1)) hx hb dX10_way_32 (by decide) ?_
    obtain rfl := Option.some.inj h
    exact eI C0 hPD.1 hPD.2 hS rfl dX10_way_33
  · have h := (if_neg cc1).symm.trans h
    refine lv_aload_n hx hb dX10_way_8 rfl (lv_at hl 0 rfl) ?_
    refine lv_iload_n hx hb dX10_way_9 rfl (lv_at hl 2 rfl) ?_
    refine kVI (As := [.int p2]) (rest := []) C0 (kt_X10_isTold l G h0 a0 f0 A0 p2) gi_V_X10_128_X10_isTold (n := 1) rfl (by decide +kernel) rfl ⟨rfl, rfl, Nat.le_of_ble_eq_true rfl, Nat.le_of_ble_eq_true rfl⟩ hPD hS 0 10 rfl rfl rfl [0, 1, 2, 3, 4, 5, 6, 7, 8, 9, 10, 11, 12, 13, 14, 15, 16, 17, 18, 19, 20, 21, 22, 23, 24, 25, 26, 27, 28, 29, 30, 31, 32, 33] [] [0, 1, 2, 3, 4, 5, 6, 7, 8, 9, 10, 11, 12, 13, 14, 15, 16, 17, 18, 19, 20, 21, 22, 23, 24, 25, 26, 27, 28, 29, 30, 31, 32, 33] (wr := ([] : va_W)) (wN := (wX10 G h0 a0 f0 A0)) rfl rfl rfl rfl rfl hl.1 (Nat.le_of_ble_eq_true rfl) dX10_way_10 (fun H locs hPD hS => ?_)
    refine lv_if_eq (tgt := 32) hx hb dX10_way_13 (by decide) (fun cc1 => ?_) (fun cc1 => ?_)
    · have h := (if_pos cc1).symm.trans h
      refine lv_iconst (v := (-1)) hx hb dX10_way_32 (by decide) ?_
      obtain rfl := Option.some.inj h
      exact eI C0 hPD.1 hPD.2 hS rfl dX10_way_33
    · have h := (if_neg cc1).symm.trans h
      refine lv_iload_n hx hb dX10_way_16 rfl (lv_at hl 3 rfl) ?_
      refine lv_iconst (v := 0) hx hb dX10_way_17 (by decide) ?_
      refine lv_bipush (v := 15) hx hb dX10_way_18 (by decide) ?_
      refine kSI (As := [.int p3, .int 0, .int 15]) (rest := []) C0 (kt_X10_in l G  p3 0 15) gi_S_X10_112_X10_in (n := 3) rfl (by decide +kernel) ⟨rfl, rfl, Nat.le_of_ble_eq_true rfl, Nat.le_of_ble_eq_true rfl⟩ hPD hS [] [0, 1, 2, 3, 4, 5, 6, 7, 8, 9, 10, 11, 12, 13, 14, 15, 16, 17, 18, 19, 20, 21, 22, 23, 24, 25, 26, 27, 28, 29, 30, 31, 32, 33] [0, 1, 2, 3, 4, 5, 6, 7, 8, 9, 10, 11, 12, 13, 14, 15, 16, 17, 18, 19, 20, 21, 22, 23, 24, 25, 26, 27, 28, 29, 30, 31, 32, 33] (wr := (wX10 G h0 a0 f0 A0)) (wN := (wX10 G h0 a0 f0 A0)) rfl rfl rfl rfl rfl hl.1 (Nat.le_of_ble_eq_true rfl) dX10_way_20 (fun H locs hPD hS => ?_)
      refine lv_if_ne (tgt := 34) hx hb dX10_way_23 (by decide) (fun cc1 => ?_) (fun cc1 => ?_)
      · have h := (if_neg cc1).symm.trans h
        exact ww_f10_way_b34 C0 A0 h _ _ _ hPD hS (lv_sub hl [0, 1, 2, 3] rfl)
      · have h := (if_pos cc1).symm.trans h
        refine lv_iload_n hx hb dX10_way_26 rfl (lv_at hl 3 rfl) ?_
        refine lv_bipush (v := 100) hx hb dX10_way_27 (by decide) ?_
        refine lv_icmp_eq (tgt := 34) hx hb dX10_way_29 (by decide) (fun cc1 => ?_) (fun cc1 => ?_)
        · have h := (if_pos cc1).symm.trans h
          exact ww_f10_way_b34 C0 A0 h _ _ _ hPD hS (lv_sub hl [0, 1, 2, 3] rfl)
        · have h := (if_neg cc1).symm.trans h
          refine lv_iconst (v := (-1)) hx hb dX10_way_32 (by decide) ?_
          obtain rfl := Option.some.inj h
          exact eI C0 hPD.1 hPD.2 hS rfl dX10_way_33
abbrev rmX10_ways : Room := { frames := 2, cells := 0, slots := 0, locals := 46 }
set_option maxRecDepth 100000 in
set_option maxHeartbeats 4000000 in
theorem kt_X10_ways (l : Launch) (G : Gp) (h0 : Nat) (a0 : Nat → Nat) (f0 : Nat → Int32) (A0 : Nat → Nat → Int32) (p1 : Int32) (p2 : Int32) : ∀ {r : Int32 × (Nat → Nat → Int32)}, f10_ways f0 A0 p1 p2 = some r → CtrI l yX10_ways cX10_ways 3 (some .int) rmX10_ways G [.ref h0, .int p1, .int p2] (wX10 G h0 a0 f0 A0) r.1 (wX10 G h0 a0 f0 r.2) := by
  intro res h
  refine ctrI_of (cc := cX10_ways) (maxL := 3) (ret := (some .int)) (by decide +kernel) rfl (Nat.le_of_ble_eq_true rfl) (fun p e s m below meth c DA C0 hP hD ls hl => ?_)
  have hPD : WD G DA (wX10 G h0 a0 f0 A0) s.heap := ⟨hP, hD⟩
  have hS : va_S DA s.heap s.heap [] := va_S.rf
  have hl : lv_has ls 3 [(0, .ref h0), (1, .int p1), (2, .int p2)] := hl
  obtain ⟨hx, hb, hml, hown, hts⟩ := C0.1
  have hK := C0.2.2.2.1
  unfold f10_ways at h
  refine lv_aload_n hx hb dX10_ways_0 rfl (lv_at hl 0 rfl) ?_
  refine lv_iload_n hx hb dX10_ways_1 rfl (lv_at hl 1 rfl) ?_
  refine kVI (As := [.int p1]) (rest := []) C0 (kt_X10_isTold l G h0 a0 f0 A0 p1) gi_V_X10_128_X10_isTold (n := 1) rfl (by decide +kernel) rfl ⟨rfl, rfl, Nat.le_of_ble_eq_true rfl, Nat.le_of_ble_eq_true rfl⟩ hPD hS 0 10 rfl rfl rfl [0, 1, 2, 3, 4, 5, 6, 7, 8, 9, 10, 11, 12, 13, 14, 15, 16, 17, 18, 19, 20, 21, 22, 23, 24, 25, 26, 27, 28, 29, 30, 31, 32, 33] [] [0, 1, 2, 3, 4, 5, 6, 7, 8, 9, 10, 11, 12, 13, 14, 15, 16, 17, 18, 19, 20, 21, 22, 23, 24, 25, 26, 27, 28, 29, 30, 31, 32, 33] (wr := ([] : va_W)) (wN := (wX10 G h0 a0 f0 A0)) rfl rfl rfl rfl rfl hl.1 (Nat.le_of_ble_eq_true rfl) dX10_ways_2 (fun H locs hPD hS => ?_)
  refine lv_if_eq (tgt := 16) hx hb dX10_ways_5 (by decide) (fun cc1 => ?_) (fun cc1 => ?_)
  · have h := (if_pos cc1).symm.trans h
    refine lv_iconst (v := (-1)) hx hb dX10_ways_16 (by decide) ?_
    obtain rfl := Option.some.inj h
    exact eI C0 hPD.1 hPD.2 hS rfl dX10_ways_17
  · have h := (if_neg cc1).symm.trans h
    refine lv_aload_n hx hb dX10_ways_8 rfl (lv_at hl 0 rfl) ?_
    refine lv_iload_n hx hb dX10_ways_9 rfl (lv_at hl 2 rfl) ?_
    refine kVI (As := [.int p2]) (rest := []) C0 (kt_X10_isTold l G h0 a0 f0 A0 p2) gi_V_X10_128_X10_isTold (n := 1) rfl (by decide +kernel) rfl ⟨rfl, rfl, Nat.le_of_ble_eq_true rfl, Nat.le_of_ble_eq_true rfl⟩ hPD hS 0 10 rfl rfl rfl [0, 1, 2, 3, 4, 5, 6, 7, 8, 9, 10, 11, 12, 13, 14, 15, 16, 17, 18, 19, 20, 21, 22, 23, 24, 25, 26, 27, 28, 29, 30, 31, 32, 33] [] [0, 1, 2, 3, 4, 5, 6, 7, 8, 9, 10, 11, 12, 13, 14, 15, 16, 17, 18, 19, 20, 21, 22, 23, 24, 25, 26, 27, 28, 29, 30, 31, 32, 33] (wr := ([] : va_W)) (wN := (wX10 G h0 a0 f0 A0)) rfl rfl rfl rfl rfl hl.1 (Nat.le_of_ble_eq_true rfl) dX10_ways_10 (fun H locs hPD hS => ?_)
    refine lv_if_ne (tgt := 18) hx hb dX10_ways_13 (by decide) (fun cc1 => ?_) (fun cc1 => ?_)
    · have h := (if_neg cc1).symm.trans h
      refine lv_aload_n hx hb dX10_ways_18 rfl (lv_at hl 0 rfl) ?_
      refine lv_iload_n hx hb dX10_ways_19 rfl (lv_at hl 1 rfl) ?_
      obtain ⟨q_1, hq_1, h⟩ := ob2 h
      refine kVV (As := [.int p1]) (rest := []) C0 (kt_X10_laysSteps l G h0 a0 f0 A0 p1 hq_1) gi_V_X10_344_X10_laysSteps (n := 1) rfl (by decide +kernel) rfl ⟨rfl, rfl, Nat.le_of_ble_eq_true rfl, Nat.le_of_ble_eq_true rfl⟩ hPD hS 0 10 rfl rfl rfl [0, 1, 2, 3, 4, 5, 6, 7, 8, 9, 10, 11, 12, 13, 14, 15, 16, 17, 18, 19, 20, 21, 22, 23, 24, 25, 26, 27, 28, 29, 30, 31, 32, 33] [] [0, 1, 2, 3, 4, 5, 6, 7, 8, 9, 10, 11, 12, 13, 14, 15, 16, 17, 18, 19, 20, 21, 22, 23, 24, 25, 26, 27, 28, 29, 30, 31, 32, 33] (wr := ([] : va_W)) (wN := (wX10 G h0 a0 f0 q_1)) rfl rfl rfl rfl rfl hl.1 (Nat.le_of_ble_eq_true rfl) dX10_ways_20 (fun H locs hPD hS => ?_)
      refine lv_aload_n hx hb dX10_ways_23 rfl (lv_at hl 0 rfl) ?_
      refine va_get (D := G.1) (ci := 10) (v := .ref (a0 47)) (C := RX10) (T := TX10) (N := 52) hx hb hts inlX10 hown hK hPD.1 0 rfl rfl 47 (by decide) (hts _ gw_784) (fun _ h9 => h9) rfl dX10_ways_24 ?_
      refine lv_iload_n hx hb dX10_ways_27 rfl (lv_at hl 2 rfl) ?_
      obtain ⟨hi_2, h⟩ := ob h
      refine va_iald hx hb hK hPD.1 30 1 rfl rfl hi_2 dX10_ways_28 ?_
      obtain rfl := Option.some.inj h
      exact eI C0 hPD.1 hPD.2 hS rfl dX10_ways_29
    · have h := (if_pos cc1).symm.trans h
      refine lv_iconst (v := (-1)) hx hb dX10_ways_16 (by decide) ?_
      obtain rfl := Option.some.inj h
      exact eI C0 hPD.1 hPD.2 hS rfl dX10_ways_17
abbrev rmX10_nearest : Room := { frames := 2, cells := 0, slots := 0, locals := 46 }
set_option maxRecDepth 100000 in
set_option maxHeartbeats 4000000 in
theorem ww_f10_nearest_b35  (C0 : Cx cX10_nearest 6 (some .int) RX10 p s m args meth c G DA) {h0 : Nat} {a0 : Nat → Nat} {f0 : Nat → Int32} {p1 : Int32} {p2 : Int32}  {k35 : (Nat → Nat → Int32) → Int32 → Int32 → Int32 → Option (Int32 × (Nat → Nat → Int32))} {res : Int32 × (Nat → Nat → Int32)}  (hk35 : ∀ (A0 : Nat → Nat → Int32) (l3 : Int32) (l4 : Int32) (l5 : Int32), k35 A0 l3 l4 l5 = some res → ∀ (H : Heap) (locs : List Loc) (ls : Array Slot), WD G DA (wX10 G h0 a0 f0 A0) H → va_S DA s.heap H locs → lv_has ls 6 [(0, .ref h0), (1, .int p1), (2, .int p2), (3, .int l3), (4, .int l4), (5, .int l5)] → W p l e rmX10_nearest s m args below meth c H locs 0 0 (MQ below (QI G DA res.1 (wX10 G h0 a0 f0 res.2)) args s 0 0 DA) (F0 m 35 ls [])) : ∀ (A0 : Nat → Nat → Int32) (l3 : Int32) (l4 : Int32) (l5 : Int32), f10_nearest_b35 f0 p1 p2  k35 A0 l3 l4 l5 = some res → ∀ (H : Heap) (locs : List Loc) (ls : Array Slot), WD G DA (wX10 G h0 a0 f0 A0) H → va_S DA s.heap H locs → lv_has ls 6 [(0, .ref h0), (1, .int p1), (2, .int p2), (3, .int l3), (4, .int l4), (5, .int l5)] → W p l e rmX10_nearest s m args below meth c H locs 0 0 (MQ below (QI G DA res.1 (wX10 G h0 a0 f0 res.2)) args s 0 0 DA) (F0 m 35 ls []) := by
  obtain ⟨hx, hb, hml, hown, hts⟩ := C0.1
  have hK := C0.2.2.2.1
  intro A0 l3 l4 l5 h _ _ _ hPD hS hl
  unfold f10_nearest_b35 at h
  refine lv_iload hx hb dX10_nearest_35 (lv_at hl 5 rfl) ?_
  refine lv_bipush (v := 8) hx hb dX10_nearest_37 (by decide) ?_
  refine lv_icmp_ge (tgt := 119) hx hb dX10_nearest_39 (by decide) (fun cc1 => ?_) (fun cc1 => ?_)
  · have h := (if_pos cc1).symm.trans h
    refine lv_iload_n hx hb dX10_nearest_119 rfl (lv_at hl 2 rfl) ?_
    refine lv_if_eq (tgt := 129) hx hb dX10_nearest_120 (by decide) (fun cc1 => ?_) (fun cc1 => ?_)
    · have h := (if_pos cc1).symm.trans h
      refine lv_iload_n hx hb dX10_nearest_129 rfl (lv_at hl 3 rfl) ?_
      refine lv_goto (tgt := 135) hx hb dX10_nearest_130 (by decide) ?_
      obtain rfl := Option.some.inj h
      exact eI C0 hPD.1 hPD.2 hS rfl dX10_nearest_135
    · have h := (if_neg cc1).symm.trans h
      refine lv_iload_n hx hb dX10_nearest_123 rfl (lv_at hl 3 rfl) ?_
      refine lv_bipush (v := (-2)) hx hb dX10_nearest_124 (by decide) ?_
      refine lv_icmp_ne (tgt := 133) hx hb dX10_nearest_126 (by decide) (fun cc1 => ?_) (fun cc1 => ?_)
      · have h := (if_neg cc1).symm.trans h
        refine lv_iload hx hb dX10_nearest_133 (lv_at hl 4 rfl) ?_
        obtain rfl := Option.some.inj h
        exact eI C0 hPD.1 hPD.2 hS rfl dX10_nearest_135
      · have h := (if_pos cc1).symm.trans h
        refine lv_iload_n hx hb dX10_nearest_129 rfl (lv_at hl 3 rfl) ?_
        refine lv_goto (tgt := 135) hx hb dX10_nearest_130 (by decide) ?_
        obtain rfl := Option.some.inj h
        exact eI C0 hPD.1 hPD.2 hS rfl dX10_nearest_135
  · have h := (if_neg cc1).symm.trans h
    refine lv_aload_n hx hb dX10_nearest_42 rfl (lv_at hl 0 rfl) ?_
    refine lv_iload hx hb dX10_nearest_43 (lv_at hl 5 rfl) ?_
    obtain ⟨q_2, hq_2, h⟩ := ob2 h
    refine kVI (As := [.int l5]) (rest := []) C0 (kt_X10_isMan l G h0 a0 f0 A0 l5 hq_2) gi_V_X10_124_X10_isMan (n := 1) rfl (by decide +kernel) rfl ⟨rfl, rfl, Nat.le_of_ble_eq_true rfl, Nat.le_of_ble_eq_true rfl⟩ hPD hS 0 10 rfl rfl rfl [0, 1, 2, 3, 4, 5, 6, 7, 8, 9, 10, 11, 12, 13, 14, 15, 16, 17, 18, 19, 20, 21, 22, 23, 24, 25, 26, 27, 28, 29, 30, 31, 32, 33] [] [0, 1, 2, 3, 4, 5, 6, 7, 8, 9, 10, 11, 12, 13, 14, 15, 16, 17, 18, 19, 20, 21, 22, 23, 24, 25, 26, 27, 28, 29, 30, 31, 32, 33] (wr := ([] : va_W)) (wN := (wX10 G h0 a0 f0 A0)) rfl rfl rfl rfl rfl hl.1 (Nat.le_of_ble_eq_true rfl) dX10_nearest_45 (fun H locs hPD hS => ?_)
    refine lv_if_eq (tgt := 113) hx hb dX10_nearest_48 (by decide) (fun cc1 => ?_) (fun cc1 => ?_)
    · have h := (if_pos cc1).symm.trans h
      refine lv_iinc (v := l5 + 1) (lv' := [(5, .int (l5 + 1)), (0, .ref h0), (1, .int p1), (2, .int p2), (3, .int l3), (4, .int l4)]) hx hb dX10_nearest_113 hl (k := 5) rfl rfl (by decide) rfl (fun ls hl => ?_)
      refine lv_goto (tgt := 35) hx hb dX10_nearest_116 (by decide) ?_
      exact hk35 A0 l3 l4 (l5 + 1) h _ _ _ hPD hS (lv_sub hl [1, 2, 3, 4, 5, 0] rfl)
    · have h := (if_neg cc1).symm.trans h
      refine lv_aload_n hx hb dX10_nearest_51 rfl (lv_at hl 0 rfl) ?_
      refine va_get (D := G.1) (ci := 10) (v := .ref (a0 46)) (C := RX10) (T := TX10) (N := 52) hx hb hts inlX10 hown hK hPD.1 0 rfl rfl 46 (by decide) (hts _ gw_783) (fun _ h9 => h9) rfl dX10_nearest_52 ?_
      refine lv_aload_n hx hb dX10_nearest_55 rfl (lv_at hl 0 rfl) ?_
      refine va_get (D := G.1) (ci := 10) (v := .ref (a0 0)) (C := RX10) (T := TX10) (N := 52) hx hb hts inlX10 hown hK hPD.1 0 rfl rfl 0 (by decide) (hts _ gw_536) (fun _ h9 => h9) rfl dX10_nearest_56 ?_
      refine lv_bipush (v := 56) hx hb dX10_nearest_59 (by decide) ?_
      refine lv_iload hx hb dX10_nearest_61 (lv_at hl 5 rfl) ?_
      refine lv_iadd hx hb dX10_nearest_63 ?_
      obtain ⟨hi_3, h⟩ := ob h
      refine va_iald hx hb hK hPD.1 1 1 rfl rfl hi_3 dX10_nearest_64 ?_
      obtain ⟨hi_4, h⟩ := ob h
      refine va_iald hx hb hK hPD.1 29 1 rfl rfl hi_4 dX10_nearest_65 ?_
      refine lv_iconst (v := (-1)) hx hb dX10_nearest_66 (by decide) ?_
      refine lv_icmp_eq (tgt := 113) hx hb dX10_nearest_67 (by decide) (fun cc1 => ?_) (fun cc1 => ?_)
      · have h := (if_pos cc1).symm.trans h
        refine lv_iinc (v := l5 + 1) (lv' := [(5, .int (l5 + 1)), (0, .ref h0), (1, .int p1), (2, .int p2), (3, .int l3), (4, .int l4)]) hx hb dX10_nearest_113 hl (k := 5) rfl rfl (by decide) rfl (fun ls hl => ?_)
        refine lv_goto (tgt := 35) hx hb dX10_nearest_116 (by decide) ?_
        exact hk35 A0 l3 l4 (l5 + 1) h _ _ _ hPD hS (lv_sub hl [1, 2, 3, 4, 5, 0] rfl)
      · have h := (if_neg cc1).symm.trans h
        refine lv_aload_n hx hb dX10_nearest_70 rfl (lv_at hl 0 rfl) ?_
        refine va_get (D := G.1) (ci := 10) (v := .ref (a0 46)) (C := RX10) (T := TX10) (N := 52) hx hb hts inlX10 hown hK hPD.1 0 rfl rfl 46 (by decide) (hts _ gw_783) (fun _ h9 => h9) rfl dX10_nearest_71 ?_
        refine lv_aload_n hx hb dX10_nearest_74 rfl (lv_at hl 0 rfl) ?_
        refine va_get (D := G.1) (ci := 10) (v := .ref (a0 0)) (C := RX10) (T := TX10) (N := 52) hx hb hts inlX10 hown hK hPD.1 0 rfl rfl 0 (by decide) (hts _ gw_536) (fun _ h9 => h9) rfl dX10_nearest_75 ?_
        refine lv_bipush (v := 56) hx hb dX10_nearest_78 (by decide) ?_
        refine lv_iload hx hb dX10_nearest_80 (lv_at hl 5 rfl) ?_
        refine lv_iadd hx hb dX10_nearest_82 ?_
        obtain ⟨hi_5, h⟩ := ob h
        refine va_iald hx hb hK hPD.1 1 1 rfl rfl hi_5 dX10_nearest_83 ?_
        obtain ⟨hi_6, h⟩ := ob h
        refine va_iald hx hb hK hPD.1 29 1 rfl rfl hi_6 dX10_nearest_84 ?_
        refine lv_iload hx hb dX10_nearest_85 (lv_at hl 4 rfl) ?_
        refine lv_icmp_lt (tgt := 93) hx hb dX10_nearest_87 (by decide) (fun cc1 => ?_) (fun cc1 => ?_)
        · have h := (if_pos cc1).symm.trans h
          refine lv_aload_n hx hb dX10_nearest_93 rfl (lv_at hl 0 rfl) ?_
          refine va_get (D := G.1) (ci := 10) (v := .ref (a0 46)) (C := RX10) (T := TX10) (N := 52) hx hb hts inlX10 hown hK hPD.1 0 rfl rfl 46 (by decide) (hts _ gw_783) (fun _ h9 => h9) rfl dX10_nearest_94 ?_
          refine lv_aload_n hx hb dX10_nearest_97 rfl (lv_at hl 0 rfl) ?_
          refine va_get (D := G.1) (ci := 10) (v := .ref (a0 0)) (C := RX10) (T := TX10) (N := 52) hx hb hts inlX10 hown hK hPD.1 0 rfl rfl 0 (by decide) (hts _ gw_536) (fun _ h9 => h9) rfl dX10_nearest_98 ?_
          refine lv_bipush (v := 56) hx hb dX10_nearest_101 (by decide) ?_
          refine lv_iload hx hb dX10_nearest_103 (lv_at hl 5 rfl) ?_
          refine lv_iadd hx hb dX10_nearest_105 ?_
          obtain ⟨hi_7, h⟩ := ob h
          refine va_iald hx hb hK hPD.1 1 1 rfl rfl hi_7 dX10_nearest_106 ?_
          obtain ⟨hi_8, h⟩ := ob h
          refine va_iald hx hb hK hPD.1 29 1 rfl rfl hi_8 dX10_nearest_107 ?_
          refine lv_istore (lv' := [(4, .int (gx (A0 46) (gx (A0 0) (56 + l5)))), (0, .ref h0), (1, .int p1), (2, .int p2), (3, .int l3), (5, .int l5)]) hx hb dX10_nearest_108 hl (by decide) rfl (fun ls hl => ?_)
          refine lv_iload hx hb dX10_nearest_110 (lv_at hl 5 rfl) ?_
          refine lv_istore_n (lv' := [(3, .int l5), (4, .int (gx (A0 46) (gx (A0 0) (56 + l5)))), (0, .ref h0), (1, .int p1), (2, .int p2), (5, .int l5)]) hx hb dX10_nearest_112 rfl hl (by decide) rfl (fun ls hl => ?_)
          refine lv_iinc (v := l5 + 1) (lv' := [(5, .int (l5 + 1)), (3, .int l5), (4, .int (gx (A0 46) (gx (A0 0) (56 + l5)))), (0, .ref h0), (1, .int p1), (2, .int p2)]) hx hb dX10_nearest_113 hl (k := 5) rfl rfl (by decide) rfl (fun ls hl => ?_)
          refine lv_goto (tgt := 35) hx hb dX10_nearest_116 (by decide) ?_
          exact hk35 A0 l5 (gx (A0 46) (gx (A0 0) (56 + l5))) (l5 + 1) h _ _ _ hPD hS (lv_sub hl [3, 4, 5, 1, 2, 0] rfl)
        · have h := (if_neg cc1).symm.trans h
          refine lv_goto (tgt := 113) hx hb dX10_nearest_90 (by decide) ?_
          refine lv_iinc (v := l5 + 1) (lv' := [(5, .int (l5 + 1)), (0, .ref h0), (1, .int p1), (2, .int p2), (3, .int l3), (4, .int l4)]) hx hb dX10_nearest_113 hl (k := 5) rfl rfl (by decide) rfl (fun ls hl => ?_)
          refine lv_goto (tgt := 35) hx hb dX10_nearest_116 (by decide) ?_
          exact hk35 A0 l3 l4 (l5 + 1) h _ _ _ hPD hS (lv_sub hl [1, 2, 3, 4, 5, 0] rfl)
set_option maxRecDepth 100000 in
set_option maxHeartbeats 4000000 in
theorem ww_f10_nearest_l35  (C0 : Cx cX10_nearest 6 (some .int) RX10 p s m args meth c G DA) {h0 : Nat} {a0 : Nat → Nat} {f0 : Nat → Int32} {p1 : Int32} {p2 : Int32}   {res : Int32 × (Nat → Nat → Int32)}  : ∀ (n : Nat) (A0 : Nat → Nat → Int32) (l3 : Int32) (l4 : Int32) (l5 : Int32), f10_nearest_l35 f0 p1 p2  n A0 l3 l4 l5 = some res → ∀ (H : Heap) (locs : List Loc) (ls : Array Slot), WD G DA (wX10 G h0 a0 f0 A0) H → va_S DA s.heap H locs → lv_has ls 6 [(0, .ref h0), (1, .int p1), (2, .int p2), (3, .int l3), (4, .int l4), (5, .int l5)] → W p l e rmX10_nearest s m args below meth c H locs 0 0 (MQ below (QI G DA res.1 (wX10 G h0 a0 f0 res.2)) args s 0 0 DA) (F0 m 35 ls []) := by
  intro n
  induction n with
  | zero => intro A0 l3 l4 l5 h; cases h
  | succ n ih => intro A0 l3 l4 l5 h; exact ww_f10_nearest_b35 C0  ih A0 l3 l4 l5 h
set_option maxRecDepth 100000 in
set_option maxHeartbeats 4000000 in
theorem kt_X10_nearest (l : Launch) (G : Gp) (h0 : Nat) (a0 : Nat → Nat) (f0 : Nat → Int32) (A0 : Nat → Nat → Int32) (p1 : Int32) (p2 : Int32) : ∀ {r : Int32 × (Nat → Nat → Int32)}, f10_nearest f0 A0 p1 p2 = some r → CtrI l yX10_nearest cX10_nearest 6 (some .int) rmX10_nearest G [.ref h0, .int p1, .int p2] (wX10 G h0 a0 f0 A0) r.1 (wX10 G h0 a0 f0 r.2) := by
  intro res h
  refine ctrI_of (cc := cX10_nearest) (maxL := 6) (ret := (some .int)) (by decide +kernel) rfl (Nat.le_of_ble_eq_true rfl) (fun p e s m below meth c DA C0 hP hD ls hl => ?_)
  have hPD : WD G DA (wX10 G h0 a0 f0 A0) s.heap := ⟨hP, hD⟩
  have hS : va_S DA s.heap s.heap [] := va_S.rf
  have hl : lv_has ls 6 [(0, .ref h0), (1, .int p1), (2, .int p2)] := hl
  obtain ⟨hx, hb, hml, hown, hts⟩ := C0.1
  have hK := C0.2.2.2.1
  unfold f10_nearest at h
  refine lv_aload_n hx hb dX10_nearest_0 rfl (lv_at hl 0 rfl) ?_
  refine lv_iload_n hx hb dX10_nearest_1 rfl (lv_at hl 1 rfl) ?_
  refine kVI (As := [.int p1]) (rest := []) C0 (kt_X10_isTold l G h0 a0 f0 A0 p1) gi_V_X10_128_X10_isTold (n := 1) rfl (by decide +kernel) rfl ⟨rfl, rfl, Nat.le_of_ble_eq_true rfl, Nat.le_of_ble_eq_true rfl⟩ hPD hS 0 10 rfl rfl rfl [0, 1, 2, 3, 4, 5, 6, 7, 8, 9, 10, 11, 12, 13, 14, 15, 16, 17, 18, 19, 20, 21, 22, 23, 24, 25, 26, 27, 28, 29, 30, 31, 32, 33] [] [0, 1, 2, 3, 4, 5, 6, 7, 8, 9, 10, 11, 12, 13, 14, 15, 16, 17, 18, 19, 20, 21, 22, 23, 24, 25, 26, 27, 28, 29, 30, 31, 32, 33] (wr := ([] : va_W)) (wN := (wX10 G h0 a0 f0 A0)) rfl rfl rfl rfl rfl hl.1 (Nat.le_of_ble_eq_true rfl) dX10_nearest_2 (fun H locs hPD hS => ?_)
  refine lv_if_eq (tgt := 17) hx hb dX10_nearest_5 (by decide) (fun cc1 => ?_) (fun cc1 => ?_)
  · have h := (if_pos cc1).symm.trans h
    refine lv_iconst (v := (-1)) hx hb dX10_nearest_17 (by decide) ?_
    obtain rfl := Option.some.inj h
    exact eI C0 hPD.1 hPD.2 hS rfl dX10_nearest_18
  · have h := (if_neg cc1).symm.trans h
    refine lv_iload_n hx hb dX10_nearest_8 rfl (lv_at hl 2 rfl) ?_
    refine lv_iconst (v := 0) hx hb dX10_nearest_9 (by decide) ?_
    refine lv_iconst (v := 1) hx hb dX10_nearest_10 (by decide) ?_
    refine kSI (As := [.int p2, .int 0, .int 1]) (rest := []) C0 (kt_X10_in l G  p2 0 1) gi_S_X10_112_X10_in (n := 3) rfl (by decide +kernel) ⟨rfl, rfl, Nat.le_of_ble_eq_true rfl, Nat.le_of_ble_eq_true rfl⟩ hPD hS [] [0, 1, 2, 3, 4, 5, 6, 7, 8, 9, 10, 11, 12, 13, 14, 15, 16, 17, 18, 19, 20, 21, 22, 23, 24, 25, 26, 27, 28, 29, 30, 31, 32, 33] [0, 1, 2, 3, 4, 5, 6, 7, 8, 9, 10, 11, 12, 13, 14, 15, 16, 17, 18, 19, 20, 21, 22, 23, 24, 25, 26, 27, 28, 29, 30, 31, 32, 33] (wr := (wX10 G h0 a0 f0 A0)) (wN := (wX10 G h0 a0 f0 A0)) rfl rfl rfl rfl rfl hl.1 (Nat.le_of_ble_eq_true rfl) dX10_nearest_11 (fun H locs hPD hS => ?_)
    refine lv_if_ne (tgt := 19) hx hb dX10_nearest_14 (by decide) (fun cc1 => ?_) (fun cc1 => ?_)
    · have h := (if_neg cc1).symm.trans h
      refine lv_aload_n hx hb dX10_nearest_19 rfl (lv_at hl 0 rfl) ?_
      refine lv_iload_n hx hb dX10_nearest_20 rfl (lv_at hl 1 rfl) ?_
      obtain ⟨q_1, hq_1, h⟩ := ob2 h
      refine kVV (As := [.int p1]) (rest := []) C0 (kt_X10_laysSteps l G h0 a0 f0 A0 p1 hq_1) gi_V_X10_344_X10_laysSteps (n := 1) rfl (by decide +kernel) rfl ⟨rfl, rfl, Nat.le_of_ble_eq_true rfl, Nat.le_of_ble_eq_true rfl⟩ hPD hS 0 10 rfl rfl rfl [0, 1, 2, 3, 4, 5, 6, 7, 8, 9, 10, 11, 12, 13, 14, 15, 16, 17, 18, 19, 20, 21, 22, 23, 24, 25, 26, 27, 28, 29, 30, 31, 32, 33] [] [0, 1, 2, 3, 4, 5, 6, 7, 8, 9, 10, 11, 12, 13, 14, 15, 16, 17, 18, 19, 20, 21, 22, 23, 24, 25, 26, 27, 28, 29, 30, 31, 32, 33] (wr := ([] : va_W)) (wN := (wX10 G h0 a0 f0 q_1)) rfl rfl rfl rfl rfl hl.1 (Nat.le_of_ble_eq_true rfl) dX10_nearest_21 (fun H locs hPD hS => ?_)
      refine lv_bipush (v := (-2)) hx hb dX10_nearest_24 (by decide) ?_
      refine lv_istore_n (lv' := [(3, .int (-2)), (0, .ref h0), (1, .int p1), (2, .int p2)]) hx hb dX10_nearest_26 rfl hl (by decide) rfl (fun ls hl => ?_)
      refine lv_ldcw (v := 1000000) hx hb hown (hts _ gw_808) dX10_nearest_27 ?_
      refine lv_istore (lv' := [(4, .int 1000000), (3, .int (-2)), (0, .ref h0), (1, .int p1), (2, .int p2)]) hx hb dX10_nearest_30 hl (by decide) rfl (fun ls hl => ?_)
      refine lv_iconst (v := 0) hx hb dX10_nearest_32 (by decide) ?_
      refine lv_istore (lv' := [(5, .int 0), (4, .int 1000000), (3, .int (-2)), (0, .ref h0), (1, .int p1), (2, .int p2)]) hx hb dX10_nearest_33 hl (by decide) rfl (fun ls hl => ?_)
      exact ww_f10_nearest_l35 C0 NF q_1 (-2) 1000000 0 h _ _ _ hPD hS (lv_sub hl [3, 4, 5, 2, 1, 0] rfl)
    · have h := (if_pos cc1).symm.trans h
      refine lv_iconst (v := (-1)) hx hb dX10_nearest_17 (by decide) ?_
      obtain rfl := Option.some.inj h
      exact eI C0 hPD.1 hPD.2 hS rfl dX10_nearest_18
end WALK
