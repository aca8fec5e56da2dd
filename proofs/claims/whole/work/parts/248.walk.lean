section WALK
variable {p : Program} {l : Launch} {e : Env} {s : State} {m : MethodId} {args : Array Value} {below : List Frame} {meth : Method} {c : Code} {G : Gp} {DA : Nat → Prop}
abbrev rmX10_likely : Room := { frames := 2, cells := 0, slots := 0, locals := 45 }
set_option maxRecDepth 100000 in
set_option maxHeartbeats 4000000 in
theorem ww_f10_likely_b97  (C0 : Cx cX10_likely 9 (some .int) RX10 p s m args meth c G DA) {h0 : Nat} {a0 : Nat → Nat} {A0 : Nat → Nat → Int32} {p1 : Int32} {p2 : Int32}  {k47 : (Nat → Int32) → Int32 → Int32 → Int32 → Int32 → Option (Int32 × (Nat → Int32))} {res : Int32 × (Nat → Int32)} (hk47 : ∀ (f0 : Nat → Int32) (l3 : Int32) (l4 : Int32) (l5 : Int32) (l6 : Int32), k47 f0 l3 l4 l5 l6 = some res → ∀ (H : Heap) (locs : List Loc) (ls : Array Slot), WD G DA (wX10 G h0 a0 f0 A0) H → va_S DA s.heap H locs → lv_has ls 9 [(0, .ref h0), (1, .int p1), (2, .int p2), (3, .int l3), (4, .int l4), (5, .int l5), (6, .int l6)] → W p l e rmX10_likely s m args below meth c H locs 0 0 (MQ below (QI G DA res.1 (wX10 G h0 a0 res.2 A0)) args s 0 0 DA) (F0 m 47 ls [])) : ∀ (f0 : Nat → Int32) (l3 : Int32) (l4 : Int32) (l5 : Int32) (l6 : Int32), f10_likely_b97 A0 p1 p2 k47 f0 l3 l4 l5 l6 = some res → ∀ (H : Heap) (locs : List Loc) (ls : Array Slot), WD G DA (wX10 G h0 a0 f0 A0) H → va_S DA s.heap H locs → lv_has ls 9 [(0, .ref h0), (1, .int p1), (2, .int p2), (3, .int l3), (4, .int l4), (5, .int l5), (6, .int l6)] → W p l e rmX10_likely s m args below meth c H locs 0 0 (MQ below (QI G DA res.1 (wX10 G h0 a0 res.2 A0)) args s 0 0 DA) (F0 m 97 ls []) := by
  obtain ⟨hx, hb, hml, hown, hts⟩ := C0.1
  have hK := C0.2.2.2.1
  intro f0 l3 l4 l5 l6 h _ _ _ hPD hS hl
  unfold f10_likely_b97 at h
  refine lv_aload_n hx hb dX10_likely_97 rfl (lv_at hl 0 rfl) ?_
  refine lv_iconst (v := 2) hx hb dX10_likely_98 (by decide) ?_
  refine lv_iload hx hb dX10_likely_99 (lv_at hl 6 rfl) ?_
  refine lv_imul hx hb dX10_likely_101 ?_
  obtain ⟨q_2, hq_2, h⟩ := ob2 h
  refine kVI (As := [.int (2 * l6)]) (rest := []) C0 (kt_X10_octet l G h0 a0 f0 A0 (2 * l6) hq_2) gi_V_X10_360_X10_octet (n := 1) rfl (by decide +kernel) rfl ⟨rfl, rfl, Nat.le_of_ble_eq_true rfl, Nat.le_of_ble_eq_true rfl⟩ hPD hS 0 10 rfl rfl rfl [0, 1, 2, 3, 4, 5, 6, 7, 8, 9, 10, 11, 12, 13, 14, 15, 16, 17, 18, 19, 20, 21, 22, 23, 24, 25, 26, 27, 28, 29, 30, 31, 32, 33] [] [0, 1, 2, 3, 4, 5, 6, 7, 8, 9, 10, 11, 12, 13, 14, 15, 16, 17, 18, 19, 20, 21, 22, 23, 24, 25, 26, 27, 28, 29, 30, 31, 32, 33] (wr := ([] : va_W)) (wN := (wX10 G h0 a0 f0 A0)) rfl rfl rfl rfl rfl hl.1 (Nat.le_of_ble_eq_true rfl) dX10_likely_102 (fun H locs hPD hS => ?_)
  refine lv_aload_n hx hb dX10_likely_105 rfl (lv_at hl 0 rfl) ?_
  refine lv_iconst (v := 2) hx hb dX10_likely_106 (by decide) ?_
  refine lv_iload hx hb dX10_likely_107 (lv_at hl 6 rfl) ?_
  refine lv_imul hx hb dX10_likely_109 ?_
  refine lv_iconst (v := 1) hx hb dX10_likely_110 (by decide) ?_
  refine lv_iadd hx hb dX10_likely_111 ?_
  obtain ⟨q_3, hq_3, h⟩ := ob2 h
  refine kVI (As := [.int ((2 * l6) + 1)]) (rest := [.int q_2]) C0 (kt_X10_octet l G h0 a0 f0 A0 ((2 * l6) + 1) hq_3) gi_V_X10_360_X10_octet (n := 1) rfl (by decide +kernel) rfl ⟨rfl, rfl, Nat.le_of_ble_eq_true rfl, Nat.le_of_ble_eq_true rfl⟩ hPD hS 0 10 rfl rfl rfl [0, 1, 2, 3, 4, 5, 6, 7, 8, 9, 10, 11, 12, 13, 14, 15, 16, 17, 18, 19, 20, 21, 22, 23, 24, 25, 26, 27, 28, 29, 30, 31, 32, 33] [] [0, 1, 2, 3, 4, 5, 6, 7, 8, 9, 10, 11, 12, 13, 14, 15, 16, 17, 18, 19, 20, 21, 22, 23, 24, 25, 26, 27, 28, 29, 30, 31, 32, 33] (wr := ([] : va_W)) (wN := (wX10 G h0 a0 f0 A0)) rfl rfl rfl rfl rfl hl.1 (Nat.le_of_ble_eq_true rfl) dX10_likely_112 (fun H locs hPD hS => ?_)
  refine lv_imul hx hb dX10_likely_115 ?_
  refine lv_istore (lv' := [(8, .int (q_2 * q_3)), (0, .ref h0), (1, .int p1), (2, .int p2), (3, .int l3), (4, .int l4), (5, .int l5), (6, .int l6)]) hx hb dX10_likely_116 hl (by decide) rfl (fun ls hl => ?_)
  refine lv_iload hx hb dX10_likely_118 (lv_at hl 0 rfl) ?_
  refine lv_iload hx hb dX10_likely_120 (lv_at hl 5 rfl) ?_
  refine lv_icmp_gt (tgt := 128) hx hb dX10_likely_122 (by decide) (fun cc1 => ?_) (fun cc1 => ?_)
  · have h := (if_pos cc1).symm.trans h
    refine lv_iload hx hb dX10_likely_128 (lv_at hl 0 rfl) ?_
    refine lv_istore (lv' := [(4, .int (q_2 * q_3)), (8, .int (q_2 * q_3)), (0, .ref h0), (1, .int p1), (2, .int p2), (3, .int l3), (5, .int l5), (6, .int l6)]) hx hb dX10_likely_130 hl (by decide) rfl (fun ls hl => ?_)
    refine lv_iload hx hb dX10_likely_132 (lv_at hl 7 rfl) ?_
    refine lv_istore (lv' := [(5, .int l6), (4, .int (q_2 * q_3)), (8, .int (q_2 * q_3)), (0, .ref h0), (1, .int p1), (2, .int p2), (3, .int l3), (6, .int l6)]) hx hb dX10_likely_134 hl (by decide) rfl (fun ls hl => ?_)
    refine lv_iinc (v := l6 + 1) (lv' := [(6, .int (l6 + 1)), (5, .int l6), (4, .int (q_2 * q_3)), (8, .int (q_2 * q_3)), (0, .ref h0), (1, .int p1), (2, .int p2), (3, .int l3)]) hx hb dX10_likely_136 hl (k := 7) rfl rfl (by decide) rfl (fun ls hl => ?_)
    refine lv_goto (tgt := 47) hx hb dX10_likely_139 (by decide) ?_
    exact hk47 f0 l3 (q_2 * q_3) l6 (l6 + 1) h _ _ _ hPD hS (lv_sub hl [4, 5, 6, 7, 2, 1, 0] rfl)
  · have h := (if_neg cc1).symm.trans h
    refine lv_goto (tgt := 136) hx hb dX10_likely_125 (by decide) ?_
    refine lv_iinc (v := l6 + 1) (lv' := [(6, .int (l6 + 1)), (8, .int (q_2 * q_3)), (0, .ref h0), (1, .int p1), (2, .int p2), (3, .int l3), (4, .int l4), (5, .int l5)]) hx hb dX10_likely_136 hl (k := 7) rfl rfl (by decide) rfl (fun ls hl => ?_)
    refine lv_goto (tgt := 47) hx hb dX10_likely_139 (by decide) ?_
    exact hk47 f0 l3 l4 l5 (l6 + 1) h _ _ _ hPD hS (lv_sub hl [2, 3, 4, 5, 6, 7, 0] rfl)
set_option maxRecDepth 100000 in
set_option maxHeartbeats 4000000 in
theorem ww_f10_likely_b59  (C0 : Cx cX10_likely 9 (some .int) RX10 p s m args meth c G DA) {h0 : Nat} {a0 : Nat → Nat} {A0 : Nat → Nat → Int32} {p1 : Int32} {p2 : Int32}  {k47 : (Nat → Int32) → Int32 → Int32 → Int32 → Int32 → Option (Int32 × (Nat → Int32))} {k59 : (Nat → Int32) → Int32 → Int32 → Int32 → Int32 → Int32 → Int32 → Option (Int32 × (Nat → Int32))} {res : Int32 × (Nat → Int32)} (hk47 : ∀ (f0 : Nat → Int32) (l3 : Int32) (l4 : Int32) (l5 : Int32) (l6 : Int32), k47 f0 l3 l4 l5 l6 = some res → ∀ (H : Heap) (locs : List Loc) (ls : Array Slot), WD G DA (wX10 G h0 a0 f0 A0) H → va_S DA s.heap H locs → lv_has ls 9 [(0, .ref h0), (1, .int p1), (2, .int p2), (3, .int l3), (4, .int l4), (5, .int l5), (6, .int l6)] → W p l e rmX10_likely s m args below meth c H locs 0 0 (MQ below (QI G DA res.1 (wX10 G h0 a0 res.2 A0)) args s 0 0 DA) (F0 m 47 ls [])) (hk59 : ∀ (f0 : Nat → Int32) (l3 : Int32) (l4 : Int32) (l5 : Int32) (l6 : Int32) (l7 : Int32) (l8 : Int32), k59 f0 l3 l4 l5 l6 l7 l8 = some res → ∀ (H : Heap) (locs : List Loc) (ls : Array Slot), WD G DA (wX10 G h0 a0 f0 A0) H → va_S DA s.heap H locs → lv_has ls 9 [(0, .ref h0), (1, .int p1), (2, .int p2), (3, .int l3), (4, .int l4), (5, .int l5), (6, .int l6), (7, .int l7), (8, .int l8)] → W p l e rmX10_likely s m args below meth c H locs 0 0 (MQ below (QI G DA res.1 (wX10 G h0 a0 res.2 A0)) args s 0 0 DA) (F0 m 59 ls [])) : ∀ (f0 : Nat → Int32) (l3 : Int32) (l4 : Int32) (l5 : Int32) (l6 : Int32) (l7 : Int32) (l8 : Int32), f10_likely_b59 A0 p1 p2 k47 k59 f0 l3 l4 l5 l6 l7 l8 = some res → ∀ (H : Heap) (locs : List Loc) (ls : Array Slot), WD G DA (wX10 G h0 a0 f0 A0) H → va_S DA s.heap H locs → lv_has ls 9 [(0, .ref h0), (1, .int p1), (2, .int p2), (3, .int l3), (4, .int l4), (5, .int l5), (6, .int l6), (7, .int l7), (8, .int l8)] → W p l e rmX10_likely s m args below meth c H locs 0 0 (MQ below (QI G DA res.1 (wX10 G h0 a0 res.2 A0)) args s 0 0 DA) (F0 m 59 ls []) := by
  obtain ⟨hx, hb, hml, hown, hts⟩ := C0.1
  have hK := C0.2.2.2.1
  intro f0 l3 l4 l5 l6 l7 l8 h _ _ _ hPD hS hl
  unfold f10_likely_b59 at h
  refine lv_iload hx hb dX10_likely_59 (lv_at hl 8 rfl) ?_
  refine lv_iload_n hx hb dX10_likely_61 rfl (lv_at hl 1 rfl) ?_
  refine lv_icmp_ge (tgt := 85) hx hb dX10_likely_62 (by decide) (fun cc1 => ?_) (fun cc1 => ?_)
  · have h := (if_pos cc1).symm.trans h
    refine lv_iload hx hb dX10_likely_85 (lv_at hl 7 rfl) ?_
    refine lv_if_ne (tgt := 97) hx hb dX10_likely_87 (by decide) (fun cc1 => ?_) (fun cc1 => ?_)
    · have h := (if_neg cc1).symm.trans h
      exact ww_f10_likely_b97 C0 hk47 f0 l3 l4 l5 l6 h _ _ _ hPD hS (lv_sub hl [0, 1, 2, 3, 4, 5, 6] rfl)
    · have h := (if_pos cc1).symm.trans h
      refine lv_iload_n hx hb dX10_likely_90 rfl (lv_at hl 3 rfl) ?_
      refine lv_iconst (v := 1) hx hb dX10_likely_91 (by decide) ?_
      refine lv_iload hx hb dX10_likely_92 (lv_at hl 6 rfl) ?_
      refine lv_ishl hx hb dX10_likely_94 ?_
      refine lv_ior hx hb dX10_likely_95 ?_
      refine lv_istore_n (lv' := [(3, .int (l3 ||| (shl 1 l6))), (0, .ref h0), (1, .int p1), (2, .int p2), (4, .int l4), (5, .int l5), (6, .int l6), (7, .int l7), (8, .int l8)]) hx hb dX10_likely_96 rfl hl (by decide) rfl (fun ls hl => ?_)
      exact ww_f10_likely_b97 C0 hk47 f0 (l3 ||| (shl 1 l6)) l4 l5 l6 h _ _ _ hPD hS (lv_sub hl [1, 2, 3, 0, 4, 5, 6] rfl)
  · have h := (if_neg cc1).symm.trans h
    refine lv_aload_n hx hb dX10_likely_65 rfl (lv_at hl 0 rfl) ?_
    refine lv_iload hx hb dX10_likely_66 (lv_at hl 8 rfl) ?_
    refine lv_iload hx hb dX10_likely_68 (lv_at hl 6 rfl) ?_
    obtain ⟨q_4, hq_4, h⟩ := ob2 h
    refine kVI (As := [.int l8, .int l6]) (rest := []) C0 (kt_X10_beats l G h0 a0 f0 A0 l8 l6 hq_4) gi_V_X10_378_X10_beats (n := 2) rfl (by decide +kernel) rfl ⟨rfl, rfl, Nat.le_of_ble_eq_true rfl, Nat.le_of_ble_eq_true rfl⟩ hPD hS 0 10 rfl rfl rfl [0, 1, 2, 3, 4, 5, 6, 7, 8, 9, 10, 11, 12, 13, 14, 15, 16, 17, 18, 19, 20, 21, 22, 23, 24, 25, 26, 27, 28, 29, 30, 31, 32, 33] [] [0, 1, 2, 3, 4, 5, 6, 7, 8, 9, 10, 11, 12, 13, 14, 15, 16, 17, 18, 19, 20, 21, 22, 23, 24, 25, 26, 27, 28, 29, 30, 31, 32, 33] (wr := ([] : va_W)) (wN := (wX10 G h0 a0 f0 A0)) rfl rfl rfl rfl rfl hl.1 (Nat.le_of_ble_eq_true rfl) dX10_likely_70 (fun H locs hPD hS => ?_)
    refine lv_if_eq (tgt := 79) hx hb dX10_likely_73 (by decide) (fun cc1 => ?_) (fun cc1 => ?_)
    · have h := (if_pos cc1).symm.trans h
      refine lv_iinc (v := l8 + 1) (lv' := [(8, .int (l8 + 1)), (0, .ref h0), (1, .int p1), (2, .int p2), (3, .int l3), (4, .int l4), (5, .int l5), (6, .int l6), (7, .int l7)]) hx hb dX10_likely_79 hl (k := 8) rfl rfl (by decide) rfl (fun ls hl => ?_)
      refine lv_goto (tgt := 59) hx hb dX10_likely_82 (by decide) ?_
      exact hk59 f0 l3 l4 l5 l6 l7 (l8 + 1) h _ _ _ hPD hS (lv_sub hl [1, 2, 3, 4, 5, 6, 7, 8, 0] rfl)
    · have h := (if_neg cc1).symm.trans h
      refine lv_iconst (v := 1) hx hb dX10_likely_76 (by decide) ?_
      refine lv_istore (lv' := [(7, .int 1), (0, .ref h0), (1, .int p1), (2, .int p2), (3, .int l3), (4, .int l4), (5, .int l5), (6, .int l6), (8, .int l8)]) hx hb dX10_likely_77 hl (by decide) rfl (fun ls hl => ?_)
      refine lv_iinc (v := l8 + 1) (lv' := [(8, .int (l8 + 1)), (7, .int 1), (0, .ref h0), (1, .int p1), (2, .int p2), (3, .int l3), (4, .int l4), (5, .int l5), (6, .int l6)]) hx hb dX10_likely_79 hl (k := 8) rfl rfl (by decide) rfl (fun ls hl => ?_)
      refine lv_goto (tgt := 59) hx hb dX10_likely_82 (by decide) ?_
      exact hk59 f0 l3 l4 l5 l6 1 (l8 + 1) h _ _ _ hPD hS (lv_sub hl [2, 3, 4, 5, 6, 7, 8, 1, 0] rfl)
set_option maxRecDepth 100000 in
set_option maxHeartbeats 4000000 in
theorem ww_f10_likely_l59  (C0 : Cx cX10_likely 9 (some .int) RX10 p s m args meth c G DA) {h0 : Nat} {a0 : Nat → Nat} {A0 : Nat → Nat → Int32} {p1 : Int32} {p2 : Int32}  {k47 : (Nat → Int32) → Int32 → Int32 → Int32 → Int32 → Option (Int32 × (Nat → Int32))} {res : Int32 × (Nat → Int32)} (hk47 : ∀ (f0 : Nat → Int32) (l3 : Int32) (l4 : Int32) (l5 : Int32) (l6 : Int32), k47 f0 l3 l4 l5 l6 = some res → ∀ (H : Heap) (locs : List Loc) (ls : Array Slot), WD G DA (wX10 G h0 a0 f0 A0) H → va_S DA s.heap H locs → lv_has ls 9 [(0, .ref h0), (1, .int p1), (2, .int p2), (3, .int l3), (4, .int l4), (5, .int l5), (6, .int l6)] → W p l e rmX10_likely s m args below meth c H locs 0 0 (MQ below (QI G DA res.1 (wX10 G h0 a0 res.2 A0)) args s 0 0 DA) (F0 m 47 ls [])) : ∀ (n : Nat) (f0 : Nat → Int32) (l3 : Int32) (l4 : Int32) (l5 : Int32) (l6 : Int32) (l7 : Int32) (l8 : Int32), f10_likely_l59 A0 p1 p2 k47 n f0 l3 l4 l5 l6 l7 l8 = some res → ∀ (H : Heap) (locs : List Loc) (ls : Array Slot), WD G DA (wX10 G h0 a0 f0 A0) H → va_S DA s.heap H locs → lv_has ls 9 [(0, .ref h0), (1, .int p1), (2, .int p2), (3, .int l3), (4, .int l4), (5, .int l5), (6, .int l6), (7, .int l7), (8, .int l8)] → W p l e rmX10_likely s m args below meth c H locs 0 0 (MQ below (QI G DA res.1 (wX10 G h0 a0 res.2 A0)) args s 0 0 DA) (F0 m 59 ls []) := by
  intro n
  induction n with
  | zero => intro f0 l3 l4 l5 l6 l7 l8 h; cases h
  | succ n ih => intro f0 l3 l4 l5 l6 l7 l8 h; exact ww_f10_likely_b59 C0 hk47 ih f0 l3 l4 l5 l6 l7 l8 h
set_option maxRecDepth 100000 in
set_option maxHeartbeats 4000000 in
theorem ww_f10_likely_b47  (C0 : Cx cX10_likely 9 (some .int) RX10 p s m args meth c G DA) {h0 : Nat} {a0 : Nat → Nat} {A0 : Nat → Nat → Int32} {p1 : Int32} {p2 : Int32}  {k47 : (Nat → Int32) → Int32 → Int32 → Int32 → Int32 → Option (Int32 × (Nat → Int32))} {res : Int32 × (Nat → Int32)}  (hk47 : ∀ (f0 : Nat → Int32) (l3 : Int32) (l4 : Int32) (l5 : Int32) (l6 : Int32), k47 f0 l3 l4 l5 l6 = some res → ∀ (H : Heap) (locs : List Loc) (ls : Array Slot), WD G DA (wX10 G h0 a0 f0 A0) H → va_S DA s.heap H locs → lv_has ls 9 [(0, .ref h0), (1, .int p1), (2, .int p2), (3, .int l3), (4, .int l4), (5, .int l5), (6, .int l6)] → W p l e rmX10_likely s m args below meth c H locs 0 0 (MQ below (QI G DA res.1 (wX10 G h0 a0 res.2 A0)) args s 0 0 DA) (F0 m 47 ls [])) : ∀ (f0 : Nat → Int32) (l3 : Int32) (l4 : Int32) (l5 : Int32) (l6 : Int32), f10_likely_b47 A0 p1 p2  k47 f0 l3 l4 l5 l6 = some res → ∀ (H : Heap) (locs : List Loc) (ls : Array Slot), WD G DA (wX10 G h0 a0 f0 A0) H → va_S DA s.heap H locs → lv_has ls 9 [(0, .ref h0), (1, .int p1), (2, .int p2), (3, .int l3), (4, .int l4), (5, .int l5), (6, .int l6)] → W p l e rmX10_likely s m args below meth c H locs 0 0 (MQ below (QI G DA res.1 (wX10 G h0 a0 res.2 A0)) args s 0 0 DA) (F0 m 47 ls []) := by
  obtain ⟨hx, hb, hml, hown, hts⟩ := C0.1
  have hK := C0.2.2.2.1
  intro f0 l3 l4 l5 l6 h _ _ _ hPD hS hl
  unfold f10_likely_b47 at h
  refine lv_iload hx hb dX10_likely_47 (lv_at hl 6 rfl) ?_
  refine lv_iload_n hx hb dX10_likely_49 rfl (lv_at hl 1 rfl) ?_
  refine lv_icmp_ge (tgt := 142) hx hb dX10_likely_50 (by decide) (fun cc1 => ?_) (fun cc1 => ?_)
  · have h := (if_pos cc1).symm.trans h
    refine lv_iload_n hx hb dX10_likely_142 rfl (lv_at hl 2 rfl) ?_
    refine lv_if_ne (tgt := 150) hx hb dX10_likely_143 (by decide) (fun cc1 => ?_) (fun cc1 => ?_)
    · have h := (if_neg cc1).symm.trans h
      refine lv_iload_n hx hb dX10_likely_150 rfl (lv_at hl 2 rfl) ?_
      refine lv_iconst (v := 1) hx hb dX10_likely_151 (by decide) ?_
      refine lv_icmp_ne (tgt := 160) hx hb dX10_likely_152 (by decide) (fun cc1 => ?_) (fun cc1 => ?_)
      · have h := (if_neg cc1).symm.trans h
        refine lv_iload hx hb dX10_likely_160 (lv_at hl 5 rfl) ?_
        obtain rfl := Option.some.inj h
        exact eI C0 hPD.1 hPD.2 hS rfl dX10_likely_162
      · have h := (if_pos cc1).symm.trans h
        refine lv_iload hx hb dX10_likely_155 (lv_at hl 4 rfl) ?_
        refine lv_goto (tgt := 162) hx hb dX10_likely_157 (by decide) ?_
        obtain rfl := Option.some.inj h
        exact eI C0 hPD.1 hPD.2 hS rfl dX10_likely_162
    · have h := (if_pos cc1).symm.trans h
      refine lv_iload_n hx hb dX10_likely_146 rfl (lv_at hl 3 rfl) ?_
      refine lv_goto (tgt := 162) hx hb dX10_likely_147 (by decide) ?_
      obtain rfl := Option.some.inj h
      exact eI C0 hPD.1 hPD.2 hS rfl dX10_likely_162
  · have h := (if_neg cc1).symm.trans h
    refine lv_iconst (v := 0) hx hb dX10_likely_53 (by decide) ?_
    refine lv_istore (lv' := [(7, .int 0), (0, .ref h0), (1, .int p1), (2, .int p2), (3, .int l3), (4, .int l4), (5, .int l5), (6, .int l6)]) hx hb dX10_likely_54 hl (by decide) rfl (fun ls hl => ?_)
    refine lv_iconst (v := 0) hx hb dX10_likely_56 (by decide) ?_
    refine lv_istore (lv' := [(8, .int 0), (7, .int 0), (0, .ref h0), (1, .int p1), (2, .int p2), (3, .int l3), (4, .int l4), (5, .int l5), (6, .int l6)]) hx hb dX10_likely_57 hl (by decide) rfl (fun ls hl => ?_)
    exact ww_f10_likely_l59 C0 hk47 NF f0 l3 l4 l5 l6 0 0 h _ _ _ hPD hS (lv_sub hl [2, 3, 4, 5, 6, 7, 8, 1, 0] rfl)
set_option maxRecDepth 100000 in
set_option maxHeartbeats 4000000 in
theorem ww_f10_likely_l47  (C0 : Cx cX10_likely 9 (some .int) RX10 p s m args meth c G DA) {h0 : Nat} {a0 : Nat → Nat} {A0 : Nat → Nat → Int32} {p1 : Int32} {p2 : Int32}   {res : Int32 × (Nat → Int32)}  : ∀ (n : Nat) (f0 : Nat → Int32) (l3 : Int32) (l4 : Int32) (l5 : Int32) (l6 : Int32), f10_likely_l47 A0 p1 p2  n f0 l3 l4 l5 l6 = some res → ∀ (H : Heap) (locs : List Loc) (ls : Array Slot), WD G DA (wX10 G h0 a0 f0 A0) H → va_S DA s.heap H locs → lv_has ls 9 [(0, .ref h0), (1, .int p1), (2, .int p2), (3, .int l3), (4, .int l4), (5, .int l5), (6, .int l6)] → W p l e rmX10_likely s m args below meth c H locs 0 0 (MQ below (QI G DA res.1 (wX10 G h0 a0 res.2 A0)) args s 0 0 DA) (F0 m 47 ls []) := by
  intro n
  induction n with
  | zero => intro f0 l3 l4 l5 l6 h; cases h
  | succ n ih => intro f0 l3 l4 l5 l6 h; exact ww_f10_likely_b47 C0  ih f0 l3 l4 l5 l6 h
set_option maxRecDepth 100000 in
set_option maxHeartbeats 4000000 in
theorem kt_X10_likely (l : Launch) (G : Gp) (h0 : Nat) (a0 : Nat → Nat) (f0 : Nat → Int32) (A0 : Nat → Nat → Int32) (p1 : Int32) (p2 : Int32) : ∀ {r : Int32 × (Nat → Int32)}, f10_likely f0 A0 p1 p2 = some r → CtrI l yX10_likely cX10_likely 9 (some .int) rmX10_likely G [.ref h0, .int p1, .int p2] (wX10 G h0 a0 f0 A0) r.1 (wX10 G h0 a0 r.2 A0) := by
  intro res h
  refine ctrI_of (cc := cX10_likely) (maxL := 9) (ret := (some .int)) (by decide +kernel) rfl (Nat.le_of_ble_eq_true rfl) (fun p e s m below meth c DA C0 hP hD ls hl => ?_)
  have hPD : WD G DA (wX10 G h0 a0 f0 A0) s.heap := ⟨hP, hD⟩
  have hS : va_S DA s.heap s.heap [] := va_S.rf
  have hl : lv_has ls 9 [(0, .ref h0), (1, .int p1), (2, .int p2)] := hl
  obtain ⟨hx, hb, hml, hown, hts⟩ := C0.1
  have hK := C0.2.2.2.1
  unfold f10_likely at h
  refine lv_iload_n hx hb dX10_likely_0 rfl (lv_at hl 1 rfl) ?_
  refine lv_iconst (v := 1) hx hb dX10_likely_1 (by decide) ?_
  refine lv_bipush (v := 16) hx hb dX10_likely_2 (by decide) ?_
  refine kSI (As := [.int p1, .int 1, .int 16]) (rest := []) C0 (kt_X10_in l G  p1 1 16) gi_S_X10_112_X10_in (n := 3) rfl (by decide +kernel) ⟨rfl, rfl, Nat.le_of_ble_eq_true rfl, Nat.le_of_ble_eq_true rfl⟩ hPD hS [] [0, 1, 2, 3, 4, 5, 6, 7, 8, 9, 10, 11, 12, 13, 14, 15, 16, 17, 18, 19, 20, 21, 22, 23, 24, 25, 26, 27, 28, 29, 30, 31, 32, 33] [0, 1, 2, 3, 4, 5, 6, 7, 8, 9, 10, 11, 12, 13, 14, 15, 16, 17, 18, 19, 20, 21, 22, 23, 24, 25, 26, 27, 28, 29, 30, 31, 32, 33] (wr := (wX10 G h0 a0 f0 A0)) (wN := (wX10 G h0 a0 f0 A0)) rfl rfl rfl rfl rfl hl.1 (Nat.le_of_ble_eq_true rfl) dX10_likely_4 (fun H locs hPD hS => ?_)
  refine lv_if_eq (tgt := 29) hx hb dX10_likely_7 (by decide) (fun cc1 => ?_) (fun cc1 => ?_)
  · have h := (if_pos cc1).symm.trans h
    refine lv_iconst (v := (-1)) hx hb dX10_likely_29 (by decide) ?_
    obtain rfl := Option.some.inj h
    exact eI C0 hPD.1 hPD.2 hS rfl dX10_likely_30
  · have h := (if_neg cc1).symm.trans h
    refine lv_iload_n hx hb dX10_likely_10 rfl (lv_at hl 2 rfl) ?_
    refine lv_iconst (v := 0) hx hb dX10_likely_11 (by decide) ?_
    refine lv_iconst (v := 2) hx hb dX10_likely_12 (by decide) ?_
    refine kSI (As := [.int p2, .int 0, .int 2]) (rest := []) C0 (kt_X10_in l G  p2 0 2) gi_S_X10_112_X10_in (n := 3) rfl (by decide +kernel) ⟨rfl, rfl, Nat.le_of_ble_eq_true rfl, Nat.le_of_ble_eq_true rfl⟩ hPD hS [] [0, 1, 2, 3, 4, 5, 6, 7, 8, 9, 10, 11, 12, 13, 14, 15, 16, 17, 18, 19, 20, 21, 22, 23, 24, 25, 26, 27, 28, 29, 30, 31, 32, 33] [0, 1, 2, 3, 4, 5, 6, 7, 8, 9, 10, 11, 12, 13, 14, 15, 16, 17, 18, 19, 20, 21, 22, 23, 24, 25, 26, 27, 28, 29, 30, 31, 32, 33] (wr := (wX10 G h0 a0 f0 A0)) (wN := (wX10 G h0 a0 f0 A0)) rfl rfl rfl rfl rfl hl.1 (Nat.le_of_ble_eq_true rfl) dX10_likely_13 (fun H locs hPD hS => ?_)
    refine lv_if_eq (tgt := 29) hx hb dX10_likely_16 (by decide) (fun cc1 => ?_) (fun cc1 => ?_)
    · have h := (if_pos cc1).symm.trans h
      refine lv_iconst (v := (-1)) hx hb dX10_likely_29 (by decide) ?_
      obtain rfl := Option.some.inj h
      exact eI C0 hPD.1 hPD.2 hS rfl dX10_likely_30
    · have h := (if_neg cc1).symm.trans h
      refine lv_iconst (v := 2) hx hb dX10_likely_19 (by decide) ?_
      refine lv_iload_n hx hb dX10_likely_20 rfl (lv_at hl 1 rfl) ?_
      refine lv_imul hx hb dX10_likely_21 ?_
      refine lv_aload_n hx hb dX10_likely_22 rfl (lv_at hl 0 rfl) ?_
      refine va_get (D := G.1) (ci := 10) (v := .int (f0 8)) (C := RX10) (T := TX10) (N := 52) hx hb hts inlX10 hown hK hPD.1 0 rfl rfl 8 (by decide) (hts _ gw_546) (fun _ h9 => h9) rfl dX10_likely_23 ?_
      refine lv_icmp_le (tgt := 31) hx hb dX10_likely_26 (by decide) (fun cc1 => ?_) (fun cc1 => ?_)
      · have h := (if_pos cc1).symm.trans h
        refine lv_aload_n hx hb dX10_likely_31 rfl (lv_at hl 0 rfl) ?_
        refine lv_iconst (v := 0) hx hb dX10_likely_32 (by decide) ?_
        refine va_put (D := G.1) (ci := 10) (v := .int 0) (ty := .int) (C := RX10) (T := TX10) (N := 52) hx hb hts inlX10 tyX10 tyX10_ok nmX10 hown hK hPD.1 hPD.2 hS 0 rfl rfl 8 (by decide) (hts _ gw_546) (fun _ h9 => h9) rfl (by decide +kernel) rfl rfl (Nat.le_of_ble_eq_true rfl) dX10_likely_33 (fun H locs hP hD hS => ?_)
        obtain ⟨f0_1, ef0_1, h⟩ := lvl h
        have hPD : WD G DA (wX10 G h0 a0 f0_1 A0) H := by rw [ef0_1]; exact ⟨hP, hD⟩
        clear ef0_1 hP hD
        refine lv_iconst (v := 0) hx hb dX10_likely_36 (by decide) ?_
        refine lv_istore_n (lv' := [(3, .int 0), (0, .ref h0), (1, .int p1), (2, .int p2)]) hx hb dX10_likely_37 rfl hl (by decide) rfl (fun ls hl => ?_)
        refine lv_iconst (v := (-1)) hx hb dX10_likely_38 (by decide) ?_
        refine lv_istore (lv' := [(4, .int (-1)), (3, .int 0), (0, .ref h0), (1, .int p1), (2, .int p2)]) hx hb dX10_likely_39 hl (by decide) rfl (fun ls hl => ?_)
        refine lv_iconst (v := 0) hx hb dX10_likely_41 (by decide) ?_
        refine lv_istore (lv' := [(5, .int 0), (4, .int (-1)), (3, .int 0), (0, .ref h0), (1, .int p1), (2, .int p2)]) hx hb dX10_likely_42 hl (by decide) rfl (fun ls hl => ?_)
        refine lv_iconst (v := 0) hx hb dX10_likely_44 (by decide) ?_
        refine lv_istore (lv' := [(6, .int 0), (5, .int 0), (4, .int (-1)), (3, .int 0), (0, .ref h0), (1, .int p1), (2, .int p2)]) hx hb dX10_likely_45 hl (by decide) rfl (fun ls hl => ?_)
        exact ww_f10_likely_l47 C0 NF f0_1 0 (-1) 0 0 h _ _ _ hPD hS (lv_sub hl [4, 5, 6, 3, 2, 1, 0] rfl)
      · have h := (if_neg cc1).symm.trans h
        refine lv_iconst (v := (-1)) hx hb dX10_likely_29 (by decide) ?_
        obtain rfl := Option.some.inj h
        exact eI C0 hPD.1 hPD.2 hS rfl dX10_likely_30
abbrev rmX10_share : Room := { frames := 1, cells := 0, slots := 0, locals := 22 }
set_option maxRecDepth 100000 in
set_option maxHeartbeats 4000000 in
theorem ww_f10_share_b42  (C0 : Cx cX10_share 8 (some .int) RX10 p s m args meth c G DA) {h0 : Nat} {a0 : Nat → Nat} {A0 : Nat → Nat → Int32} {p1 : Int32} {p2 : Int32}  {k42 : (Nat → Int32) → Int32 → Int32 → Option (Int32 × (Nat → Int32))} {res : Int32 × (Nat → Int32)}  (hk42 : ∀ (f0 : Nat → Int32) (l3 : Int32) (l4 : Int32), k42 f0 l3 l4 = some res → ∀ (H : Heap) (locs : List Loc) (ls : Array Slot), WD G DA (wX10 G h0 a0 f0 A0) H → va_S DA s.heap H locs → lv_has ls 8 [(0, .ref h0), (1, .int p1), (2, .int p2), (3, .int l3), (4, .int l4)] → W p l e rmX10_share s m args below meth c H locs 0 0 (MQ below (QI G DA res.1 (wX10 G h0 a0 res.2 A0)) args s 0 0 DA) (F0 m 42 ls [])) : ∀ (f0 : Nat → Int32) (l3 : Int32) (l4 : Int32), f10_share_b42 A0 p1 p2  k42 f0 l3 l4 = some res → ∀ (H : Heap) (locs : List Loc) (ls : Array Slot), WD G DA (wX10 G h0 a0 f0 A0) H → va_S DA s.heap H locs → lv_has ls 8 [(0, .ref h0), (1, .int p1), (2, .int p2), (3, .int l3), (4, .int l4)] → W p l e rmX10_share s m args below meth c H locs 0 0 (MQ below (QI G DA res.1 (wX10 G h0 a0 res.2 A0)) args s 0 0 DA) (F0 m 42 ls []) := by
  obtain ⟨hx, hb, hml, hown, hts⟩ := C0.1
  have hK := C0.2.2.2.1
  intro f0 l3 l4 h _ _ _ hPD hS hl
  unfold f10_share_b42 at h
  refine lv_iload hx hb dX10_share_42 (lv_at hl 4 rfl) ?_
  refine lv_iload_n hx hb dX10_share_44 rfl (lv_at hl 1 rfl) ?_
  refine lv_icmp_ge (tgt := 134) hx hb dX10_share_45 (by decide) (fun cc1 => ?_) (fun cc1 => ?_)
  · have h := (if_pos cc1).symm.trans h
    refine lv_iload_n hx hb dX10_share_134 rfl (lv_at hl 3 rfl) ?_
    obtain rfl := Option.some.inj h
    exact eI C0 hPD.1 hPD.2 hS rfl dX10_share_135
  · have h := (if_neg cc1).symm.trans h
    refine lv_aload_n hx hb dX10_share_48 rfl (lv_at hl 0 rfl) ?_
    refine lv_iconst (v := 2) hx hb dX10_share_49 (by decide) ?_
    refine lv_iload hx hb dX10_share_50 (lv_at hl 4 rfl) ?_
    refine lv_imul hx hb dX10_share_52 ?_
    refine lv_iconst (v := 1) hx hb dX10_share_53 (by decide) ?_
    refine lv_iadd hx hb dX10_share_54 ?_
    obtain ⟨q_2, hq_2, h⟩ := ob2 h
    refine kVI (As := [.int ((2 * l4) + 1)]) (rest := []) C0 (kt_X10_octet l G h0 a0 f0 A0 ((2 * l4) + 1) hq_2) gi_V_X10_360_X10_octet (n := 1) rfl (by decide +kernel) rfl ⟨rfl, rfl, Nat.le_of_ble_eq_true rfl, Nat.le_of_ble_eq_true rfl⟩ hPD hS 0 10 rfl rfl rfl [0, 1, 2, 3, 4, 5, 6, 7, 8, 9, 10, 11, 12, 13, 14, 15, 16, 17, 18, 19, 20, 21, 22, 23, 24, 25, 26, 27, 28, 29, 30, 31, 32, 33] [] [0, 1, 2, 3, 4, 5, 6, 7, 8, 9, 10, 11, 12, 13, 14, 15, 16, 17, 18, 19, 20, 21, 22, 23, 24, 25, 26, 27, 28, 29, 30, 31, 32, 33] (wr := ([] : va_W)) (wN := (wX10 G h0 a0 f0 A0)) rfl rfl rfl rfl rfl hl.1 (Nat.le_of_ble_eq_true rfl) dX10_share_55 (fun H locs hPD hS => ?_)
    refine lv_istore (lv' := [(5, .int q_2), (0, .ref h0), (1, .int p1), (2, .int p2), (3, .int l3), (4, .int l4)]) hx hb dX10_share_58 hl (by decide) rfl (fun ls hl => ?_)
    refine lv_iload hx hb dX10_share_60 (lv_at hl 0 rfl) ?_
    refine lv_iload_n hx hb dX10_share_62 rfl (lv_at hl 3 rfl) ?_
    refine kSI (As := [.int q_2, .int p2]) (rest := []) C0 (kt_X10_has l G  q_2 p2) gi_S_X10_120_X10_has (n := 2) rfl (by decide +kernel) ⟨rfl, rfl, Nat.le_of_ble_eq_true rfl, Nat.le_of_ble_eq_true rfl⟩ hPD hS [] [0, 1, 2, 3, 4, 5, 6, 7, 8, 9, 10, 11, 12, 13, 14, 15, 16, 17, 18, 19, 20, 21, 22, 23, 24, 25, 26, 27, 28, 29, 30, 31, 32, 33] [0, 1, 2, 3, 4, 5, 6, 7, 8, 9, 10, 11, 12, 13, 14, 15, 16, 17, 18, 19, 20, 21, 22, 23, 24, 25, 26, 27, 28, 29, 30, 31, 32, 33] (wr := (wX10 G h0 a0 f0 A0)) (wN := (wX10 G h0 a0 f0 A0)) rfl rfl rfl rfl rfl hl.1 (Nat.le_of_ble_eq_true rfl) dX10_share_63 (fun H locs hPD hS => ?_)
    refine lv_if_ne (tgt := 72) hx hb dX10_share_66 (by decide) (fun cc1 => ?_) (fun cc1 => ?_)
    · have h := (if_neg cc1).symm.trans h
      refine lv_iload hx hb dX10_share_72 (lv_at hl 0 rfl) ?_
      obtain ⟨q_3, hq_3, h⟩ := ob2 h
      refine kSI (As := [.int q_2]) (rest := []) C0 (kt_X10_bits l G  q_2 hq_3) gi_S_X10_244_X10_bits (n := 1) rfl (by decide +kernel) ⟨rfl, rfl, Nat.le_of_ble_eq_true rfl, Nat.le_of_ble_eq_true rfl⟩ hPD hS [] [0, 1, 2, 3, 4, 5, 6, 7, 8, 9, 10, 11, 12, 13, 14, 15, 16, 17, 18, 19, 20, 21, 22, 23, 24, 25, 26, 27, 28, 29, 30, 31, 32, 33] [0, 1, 2, 3, 4, 5, 6, 7, 8, 9, 10, 11, 12, 13, 14, 15, 16, 17, 18, 19, 20, 21, 22, 23, 24, 25, 26, 27, 28, 29, 30, 31, 32, 33] (wr := (wX10 G h0 a0 f0 A0)) (wN := (wX10 G h0 a0 f0 A0)) rfl rfl rfl rfl rfl hl.1 (Nat.le_of_ble_eq_true rfl) dX10_share_74 (fun H locs hPD hS => ?_)
      refine lv_istore (lv' := [(6, .int q_3), (5, .int q_2), (0, .ref h0), (1, .int p1), (2, .int p2), (3, .int l3), (4, .int l4)]) hx hb dX10_share_77 hl (by decide) rfl (fun ls hl => ?_)
      refine lv_iload hx hb dX10_share_79 (lv_at hl 1 rfl) ?_
      refine lv_iconst (v := 1) hx hb dX10_share_81 (by decide) ?_
      refine lv_iload_n hx hb dX10_share_82 rfl (lv_at hl 4 rfl) ?_
      refine lv_ishl hx hb dX10_share_83 ?_
      refine lv_iconst (v := 1) hx hb dX10_share_84 (by decide) ?_
      refine lv_isub hx hb dX10_share_85 ?_
      refine lv_iand hx hb dX10_share_86 ?_
      obtain ⟨q_4, hq_4, h⟩ := ob2 h
      refine kSI (As := [.int (q_2 &&& ((shl 1 p2) - 1))]) (rest := []) C0 (kt_X10_bits l G  (q_2 &&& ((shl 1 p2) - 1)) hq_4) gi_S_X10_244_X10_bits (n := 1) rfl (by decide +kernel) ⟨rfl, rfl, Nat.le_of_ble_eq_true rfl, Nat.le_of_ble_eq_true rfl⟩ hPD hS [] [0, 1, 2, 3, 4, 5, 6, 7, 8, 9, 10, 11, 12, 13, 14, 15, 16, 17, 18, 19, 20, 21, 22, 23, 24, 25, 26, 27, 28, 29, 30, 31, 32, 33] [0, 1, 2, 3, 4, 5, 6, 7, 8, 9, 10, 11, 12, 13, 14, 15, 16, 17, 18, 19, 20, 21, 22, 23, 24, 25, 26, 27, 28, 29, 30, 31, 32, 33] (wr := (wX10 G h0 a0 f0 A0)) (wN := (wX10 G h0 a0 f0 A0)) rfl rfl rfl rfl rfl hl.1 (Nat.le_of_ble_eq_true rfl) dX10_share_87 (fun H locs hPD hS => ?_)
      refine lv_istore (lv' := [(7, .int q_4), (6, .int q_3), (5, .int q_2), (0, .ref h0), (1, .int p1), (2, .int p2), (3, .int l3), (4, .int l4)]) hx hb dX10_share_90 hl (by decide) rfl (fun ls hl => ?_)
      refine lv_iload_n hx hb dX10_share_92 rfl (lv_at hl 6 rfl) ?_
      refine lv_aload_n hx hb dX10_share_93 rfl (lv_at hl 3 rfl) ?_
      refine lv_iconst (v := 2) hx hb dX10_share_94 (by decide) ?_
      refine lv_iload hx hb dX10_share_95 (lv_at hl 7 rfl) ?_
      refine lv_imul hx hb dX10_share_97 ?_
      obtain ⟨q_5, hq_5, h⟩ := ob2 h
      refine kVI (As := [.int (2 * l4)]) (rest := [.int l3]) C0 (kt_X10_octet l G h0 a0 f0 A0 (2 * l4) hq_5) gi_V_X10_360_X10_octet (n := 1) rfl (by decide +kernel) rfl ⟨rfl, rfl, Nat.le_of_ble_eq_true rfl, Nat.le_of_ble_eq_true rfl⟩ hPD hS 0 10 rfl rfl rfl [0, 1, 2, 3, 4, 5, 6, 7, 8, 9, 10, 11, 12, 13, 14, 15, 16, 17, 18, 19, 20, 21, 22, 23, 24, 25, 26, 27, 28, 29, 30, 31, 32, 33] [] [0, 1, 2, 3, 4, 5, 6, 7, 8, 9, 10, 11, 12, 13, 14, 15, 16, 17, 18, 19, 20, 21, 22, 23, 24, 25, 26, 27, 28, 29, 30, 31, 32, 33] (wr := ([] : va_W)) (wN := (wX10 G h0 a0 f0 A0)) rfl rfl rfl rfl rfl hl.1 (Nat.le_of_ble_eq_true rfl) dX10_share_98 (fun H locs hPD hS => ?_)
      refine lv_iload hx hb dX10_share_101 (lv_at hl 1 rfl) ?_
      obtain ⟨hz, h⟩ := ob h
      refine lv_idiv hx hb dX10_share_103 hz ?_
      refine lv_iadd hx hb dX10_share_104 ?_
      refine lv_iload hx hb dX10_share_105 (lv_at hl 0 rfl) ?_
      refine lv_aload_n hx hb dX10_share_107 rfl (lv_at hl 3 rfl) ?_
      refine lv_iconst (v := 2) hx hb dX10_share_108 (by decide) ?_
      refine lv_iload hx hb dX10_share_109 (lv_at hl 7 rfl) ?_
      refine lv_imul hx hb dX10_share_111 ?_
      obtain ⟨q_6, hq_6, h⟩ := ob2 h
      refine kVI (As := [.int (2 * l4)]) (rest := [.int q_4, .int (l3 + (q_5 / q_3))]) C0 (kt_X10_octet l G h0 a0 f0 A0 (2 * l4) hq_6) gi_V_X10_360_X10_octet (n := 1) rfl (by decide +kernel) rfl ⟨rfl, rfl, Nat.le_of_ble_eq_true rfl, Nat.le_of_ble_eq_true rfl⟩ hPD hS 0 10 rfl rfl rfl [0, 1, 2, 3, 4, 5, 6, 7, 8, 9, 10, 11, 12, 13, 14, 15, 16, 17, 18, 19, 20, 21, 22, 23, 24, 25, 26, 27, 28, 29, 30, 31, 32, 33] [] [0, 1, 2, 3, 4, 5, 6, 7, 8, 9, 10, 11, 12, 13, 14, 15, 16, 17, 18, 19, 20, 21, 22, 23, 24, 25, 26, 27, 28, 29, 30, 31, 32, 33] (wr := ([] : va_W)) (wN := (wX10 G h0 a0 f0 A0)) rfl rfl rfl rfl rfl hl.1 (Nat.le_of_ble_eq_true rfl) dX10_share_112 (fun H locs hPD hS => ?_)
      refine lv_iload hx hb dX10_share_115 (lv_at hl 1 rfl) ?_
      obtain ⟨hz, h⟩ := ob h
      refine lv_irem hx hb dX10_share_117 hz ?_
      refine lv_icmp_ge (tgt := 125) hx hb dX10_share_118 (by decide) (fun cc1 => ?_) (fun cc1 => ?_)
      · have h := (if_pos cc1).symm.trans h
        refine lv_iconst (v := 0) hx hb dX10_share_125 (by decide) ?_
        refine lv_iadd hx hb dX10_share_126 ?_
        refine lv_istore_n (lv' := [(3, .int ((l3 + (q_5 / q_3)) + 0)), (7, .int q_4), (6, .int q_3), (5, .int q_2), (0, .ref h0), (1, .int p1), (2, .int p2), (4, .int l4)]) hx hb dX10_share_127 rfl hl (by decide) rfl (fun ls hl => ?_)
        refine lv_iinc (v := l4 + 1) (lv' := [(4, .int (l4 + 1)), (3, .int ((l3 + (q_5 / q_3)) + 0)), (7, .int q_4), (6, .int q_3), (5, .int q_2), (0, .ref h0), (1, .int p1), (2, .int p2)]) hx hb dX10_share_128 hl (k := 7) rfl rfl (by decide) rfl (fun ls hl => ?_)
        refine lv_goto (tgt := 42) hx hb dX10_share_131 (by decide) ?_
        exact hk42 f0 ((l3 + (q_5 / q_3)) + 0) (l4 + 1) h _ _ _ hPD hS (lv_sub hl [5, 6, 7, 1, 0] rfl)
      · have h := (if_neg cc1).symm.trans h
        refine lv_iconst (v := 1) hx hb dX10_share_121 (by decide) ?_
        refine lv_goto (tgt := 126) hx hb dX10_share_122 (by decide) ?_
        refine lv_iadd hx hb dX10_share_126 ?_
        refine lv_istore_n (lv' := [(3, .int ((l3 + (q_5 / q_3)) + 1)), (7, .int q_4), (6, .int q_3), (5, .int q_2), (0, .ref h0), (1, .int p1), (2, .int p2), (4, .int l4)]) hx hb dX10_share_127 rfl hl (by decide) rfl (fun ls hl => ?_)
        refine lv_iinc (v := l4 + 1) (lv' := [(4, .int (l4 + 1)), (3, .int ((l3 + (q_5 / q_3)) + 1)), (7, .int q_4), (6, .int q_3), (5, .int q_2), (0, .ref h0), (1, .int p1), (2, .int p2)]) hx hb dX10_share_128 hl (k := 7) rfl rfl (by decide) rfl (fun ls hl => ?_)
        refine lv_goto (tgt := 42) hx hb dX10_share_131 (by decide) ?_
        exact hk42 f0 ((l3 + (q_5 / q_3)) + 1) (l4 + 1) h _ _ _ hPD hS (lv_sub hl [5, 6, 7, 1, 0] rfl)
    · have h := (if_pos cc1).symm.trans h
      refine lv_goto (tgt := 128) hx hb dX10_share_69 (by decide) ?_
      refine lv_iinc (v := l4 + 1) (lv' := [(4, .int (l4 + 1)), (5, .int q_2), (0, .ref h0), (1, .int p1), (2, .int p2), (3, .int l3)]) hx hb dX10_share_128 hl (k := 5) rfl rfl (by decide) rfl (fun ls hl => ?_)
      refine lv_goto (tgt := 42) hx hb dX10_share_131 (by decide) ?_
      exact hk42 f0 l3 (l4 + 1) h _ _ _ hPD hS (lv_sub hl [2, 3, 4, 5, 0] rfl)
set_option maxRecDepth 100000 in
set_option maxHeartbeats 4000000 in
theorem ww_f10_share_l42  (C0 : Cx cX10_share 8 (some .int) RX10 p s m args meth c G DA) {h0 : Nat} {a0 : Nat → Nat} {A0 : Nat → Nat → Int32} {p1 : Int32} {p2 : Int32}   {res : Int32 × (Nat → Int32)}  : ∀ (n : Nat) (f0 : Nat → Int32) (l3 : Int32) (l4 : Int32), f10_share_l42 A0 p1 p2  n f0 l3 l4 = some res → ∀ (H : Heap) (locs : List Loc) (ls : Array Slot), WD G DA (wX10 G h0 a0 f0 A0) H → va_S DA s.heap H locs → lv_has ls 8 [(0, .ref h0), (1, .int p1), (2, .int p2), (3, .int l3), (4, .int l4)] → W p l e rmX10_share s m args below meth c H locs 0 0 (MQ below (QI G DA res.1 (wX10 G h0 a0 res.2 A0)) args s 0 0 DA) (F0 m 42 ls []) := by
  intro n
  induction n with
  | zero => intro f0 l3 l4 h; cases h
  | succ n ih => intro f0 l3 l4 h; exact ww_f10_share_b42 C0  ih f0 l3 l4 h
set_option maxRecDepth 100000 in
set_option maxHeartbeats 4000000 in
theorem kt_X10_share (l : Launch) (G : Gp) (h0 : Nat) (a0 : Nat → Nat) (f0 : Nat → Int32) (A0 : Nat → Nat → Int32) (p1 : Int32) (p2 : Int32) : ∀ {r : Int32 × (Nat → Int32)}, f10_share f0 A0 p1 p2 = some r → CtrI l yX10_share cX10_share 8 (some .int) rmX10_share G [.ref h0, .int p1, .int p2] (wX10 G h0 a0 f0 A0) r.1 (wX10 G h0 a0 r.2 A0) := by
  intro res h
  refine ctrI_of (cc := cX10_share) (maxL := 8) (ret := (some .int)) (by decide +kernel) rfl (Nat.le_of_ble_eq_true rfl) (fun p e s m below meth c DA C0 hP hD ls hl => ?_)
  have hPD : WD G DA (wX10 G h0 a0 f0 A0) s.heap := ⟨hP, hD⟩
  have hS : va_S DA s.heap s.heap [] := va_S.rf
  have hl : lv_has ls 8 [(0, .ref h0), (1, .int p1), (2, .int p2)] := hl
  obtain ⟨hx, hb, hml, hown, hts⟩ := C0.1
  have hK := C0.2.2.2.1
  unfold f10_share at h
  refine lv_iload_n hx hb dX10_share_0 rfl (lv_at hl 1 rfl) ?_
  refine lv_iconst (v := 1) hx hb dX10_share_1 (by decide) ?_
  refine lv_bipush (v := 12) hx hb dX10_share_2 (by decide) ?_
  refine kSI (As := [.int p1, .int 1, .int 12]) (rest := []) C0 (kt_X10_in l G  p1 1 12) gi_S_X10_112_X10_in (n := 3) rfl (by decide +kernel) ⟨rfl, rfl, Nat.le_of_ble_eq_true rfl, Nat.le_of_ble_eq_true rfl⟩ hPD hS [] [0, 1, 2, 3, 4, 5, 6, 7, 8, 9, 10, 11, 12, 13, 14, 15, 16, 17, 18, 19, 20, 21, 22, 23, 24, 25, 26, 27, 28, 29, 30, 31, 32, 33] [0, 1, 2, 3, 4, 5, 6, 7, 8, 9, 10, 11, 12, 13, 14, 15, 16, 17, 18, 19, 20, 21, 22, 23, 24, 25, 26, 27, 28, 29, 30, 31, 32, 33] (wr := (wX10 G h0 a0 f0 A0)) (wN := (wX10 G h0 a0 f0 A0)) rfl rfl rfl rfl rfl hl.1 (Nat.le_of_ble_eq_true rfl) dX10_share_4 (fun H locs hPD hS => ?_)
  refine lv_if_eq (tgt := 30) hx hb dX10_share_7 (by decide) (fun cc1 => ?_) (fun cc1 => ?_)
  · have h := (if_pos cc1).symm.trans h
    refine lv_iconst (v := (-1)) hx hb dX10_share_30 (by decide) ?_
    obtain rfl := Option.some.inj h
    exact eI C0 hPD.1 hPD.2 hS rfl dX10_share_31
  · have h := (if_neg cc1).symm.trans h
    refine lv_iload_n hx hb dX10_share_10 rfl (lv_at hl 2 rfl) ?_
    refine lv_iconst (v := 0) hx hb dX10_share_11 (by decide) ?_
    refine lv_bipush (v := 7) hx hb dX10_share_12 (by decide) ?_
    refine kSI (As := [.int p2, .int 0, .int 7]) (rest := []) C0 (kt_X10_in l G  p2 0 7) gi_S_X10_112_X10_in (n := 3) rfl (by decide +kernel) ⟨rfl, rfl, Nat.le_of_ble_eq_true rfl, Nat.le_of_ble_eq_true rfl⟩ hPD hS [] [0, 1, 2, 3, 4, 5, 6, 7, 8, 9, 10, 11, 12, 13, 14, 15, 16, 17, 18, 19, 20, 21, 22, 23, 24, 25, 26, 27, 28, 29, 30, 31, 32, 33] [0, 1, 2, 3, 4, 5, 6, 7, 8, 9, 10, 11, 12, 13, 14, 15, 16, 17, 18, 19, 20, 21, 22, 23, 24, 25, 26, 27, 28, 29, 30, 31, 32, 33] (wr := (wX10 G h0 a0 f0 A0)) (wN := (wX10 G h0 a0 f0 A0)) rfl rfl rfl rfl rfl hl.1 (Nat.le_of_ble_eq_true rfl) dX10_share_14 (fun H locs hPD hS => ?_)
    refine lv_if_eq (tgt := 30) hx hb dX10_share_17 (by decide) (fun cc1 => ?_) (fun cc1 => ?_)
    · have h := (if_pos cc1).symm.trans h
      refine lv_iconst (v := (-1)) hx hb dX10_share_30 (by decide) ?_
      obtain rfl := Option.some.inj h
      exact eI C0 hPD.1 hPD.2 hS rfl dX10_share_31
    · have h := (if_neg cc1).symm.trans h
      refine lv_iconst (v := 2) hx hb dX10_share_20 (by decide) ?_
      refine lv_iload_n hx hb dX10_share_21 rfl (lv_at hl 1 rfl) ?_
      refine lv_imul hx hb dX10_share_22 ?_
      refine lv_aload_n hx hb dX10_share_23 rfl (lv_at hl 0 rfl) ?_
      refine va_get (D := G.1) (ci := 10) (v := .int (f0 8)) (C := RX10) (T := TX10) (N := 52) hx hb hts inlX10 hown hK hPD.1 0 rfl rfl 8 (by decide) (hts _ gw_546) (fun _ h9 => h9) rfl dX10_share_24 ?_
      refine lv_icmp_le (tgt := 32) hx hb dX10_share_27 (by decide) (fun cc1 => ?_) (fun cc1 => ?_)
      · have h := (if_pos cc1).symm.trans h
        refine lv_aload_n hx hb dX10_share_32 rfl (lv_at hl 0 rfl) ?_
        refine lv_iconst (v := 0) hx hb dX10_share_33 (by decide) ?_
        refine va_put (D := G.1) (ci := 10) (v := .int 0) (ty := .int) (C := RX10) (T := TX10) (N := 52) hx hb hts inlX10 tyX10 tyX10_ok nmX10 hown hK hPD.1 hPD.2 hS 0 rfl rfl 8 (by decide) (hts _ gw_546) (fun _ h9 => h9) rfl (by decide +kernel) rfl rfl (Nat.le_of_ble_eq_true rfl) dX10_share_34 (fun H locs hP hD hS => ?_)
        obtain ⟨f0_1, ef0_1, h⟩ := lvl h
        have hPD : WD G DA (wX10 G h0 a0 f0_1 A0) H := by rw [ef0_1]; exact ⟨hP, hD⟩
        clear ef0_1 hP hD
        refine lv_iconst (v := 0) hx hb dX10_share_37 (by decide) ?_
        refine lv_istore_n (lv' := [(3, .int 0), (0, .ref h0), (1, .int p1), (2, .int p2)]) hx hb dX10_share_38 rfl hl (by decide) rfl (fun ls hl => ?_)
        refine lv_iconst (v := 0) hx hb dX10_share_39 (by decide) ?_
        refine lv_istore (lv' := [(4, .int 0), (3, .int 0), (0, .ref h0), (1, .int p1), (2, .int p2)]) hx hb dX10_share_40 hl (by decide) rfl (fun ls hl => ?_)
        exact ww_f10_share_l42 C0 NF f0_1 0 0 h _ _ _ hPD hS (lv_sub hl [2, 3, 4, 1, 0] rfl)
      · have h := (if_neg cc1).symm.trans h
        refine lv_iconst (v := (-1)) hx hb dX10_share_30 (by decide) ?_
        obtain rfl := Option.some.inj h
        exact eI C0 hPD.1 hPD.2 hS rfl dX10_share_31
abbrev rmX10_gcd : Room := { frames := 0, cells := 0, slots := 0, locals := 0 }
set_option maxRecDepth 100000 in
set_option maxHeartbeats 4000000 in
theorem ww_f10_gcd_b4  (C0 : Cx cX10_gcd 5 (some .int) RX10 p s m args meth c G DA) {p0 : Int32} {p1 : Int32}  {k4 : Int32 → Int32 → Option (Int32)} {res : Int32}  (hk4 : ∀ (l2 : Int32) (l3 : Int32), k4 l2 l3 = some res → ∀ (H : Heap) (locs : List Loc) (ls : Array Slot), WD G DA ([] : va_W) H → va_S DA s.heap H locs → lv_has ls 5 [(0, .int p0), (1, .int p1), (2, .int l2), (3, .int l3)] → W p l e rmX10_gcd s m args below meth c H locs 0 0 (MQ below (QI G DA res ([] : va_W)) args s 0 0 DA) (F0 m 4 ls [])) : ∀ (l2 : Int32) (l3 : Int32), f10_gcd_b4 p0 p1  k4 l2 l3 = some res → ∀ (H : Heap) (locs : List Loc) (ls : Array Slot), WD G DA ([] : va_W) H → va_S DA s.heap H locs → lv_has ls 5 [(0, .int p0), (1, .int p1), (2, .int l2), (3, .int l3)] → W p l e rmX10_gcd s m args below meth c H locs 0 0 (MQ below (QI G DA res ([] : va_W)) args s 0 0 DA) (F0 m 4 ls []) := by
  obtain ⟨hx, hb, hml, hown, hts⟩ := C0.1
  have hK := C0.2.2.2.1
  intro l2 l3 h _ _ _ hPD hS hl
  unfold f10_gcd_b4 at h
  refine lv_iload_n hx hb dX10_gcd_4 rfl (lv_at hl 3 rfl) ?_
  refine lv_if_eq (tgt := 21) hx hb dX10_gcd_5 (by decide) (fun cc1 => ?_) (fun cc1 => ?_)
  · have h := (if_pos cc1).symm.trans h
    refine lv_iload_n hx hb dX10_gcd_21 rfl (lv_at hl 2 rfl) ?_
    obtain rfl := Option.some.inj h
    exact eI C0 hPD.1 hPD.2 hS rfl dX10_gcd_22
  · have h := (if_neg cc1).symm.trans h
    refine lv_iload_n hx hb dX10_gcd_8 rfl (lv_at hl 2 rfl) ?_
    refine lv_iload_n hx hb dX10_gcd_9 rfl (lv_at hl 3 rfl) ?_
    obtain ⟨hz, h⟩ := ob h
    refine lv_irem hx hb dX10_gcd_10 hz ?_
    refine lv_istore (lv' := [(4, .int (irm l2 l3)), (0, .int p0), (1, .int p1), (2, .int l2), (3, .int l3)]) hx hb dX10_gcd_11 hl (by decide) rfl (fun ls hl => ?_)
    refine lv_iload_n hx hb dX10_gcd_13 rfl (lv_at hl 4 rfl) ?_
    refine lv_istore_n (lv' := [(2, .int l3), (4, .int (irm l2 l3)), (0, .int p0), (1, .int p1), (3, .int l3)]) hx hb dX10_gcd_14 rfl hl (by decide) rfl (fun ls hl => ?_)
    refine lv_iload hx hb dX10_gcd_15 (lv_at hl 1 rfl) ?_
    refine lv_istore_n (lv' := [(3, .int (irm l2 l3)), (2, .int l3), (4, .int (irm l2 l3)), (0, .int p0), (1, .int p1)]) hx hb dX10_gcd_17 rfl hl (by decide) rfl (fun ls hl => ?_)
    refine lv_goto (tgt := 4) hx hb dX10_gcd_18 (by decide) ?_
    exact hk4 l3 (irm l2 l3) h _ _ _ hPD hS (lv_sub hl [3, 4, 1, 0] rfl)
set_option maxRecDepth 100000 in
set_option maxHeartbeats 4000000 in
theorem ww_f10_gcd_l4  (C0 : Cx cX10_gcd 5 (some .int) RX10 p s m args meth c G DA) {p0 : Int32} {p1 : Int32}   {res : Int32}  : ∀ (n : Nat) (l2 : Int32) (l3 : Int32), f10_gcd_l4 p0 p1  n l2 l3 = some res → ∀ (H : Heap) (locs : List Loc) (ls : Array Slot), WD G DA ([] : va_W) H → va_S DA s.heap H locs → lv_has ls 5 [(0, .int p0), (1, .int p1), (2, .int l2), (3, .int l3)] → W p l e rmX10_gcd s m args below meth c H locs 0 0 (MQ below (QI G DA res ([] : va_W)) args s 0 0 DA) (F0 m 4 ls []) := by
  intro n
  induction n with
  | zero => intro l2 l3 h; cases h
  | succ n ih => intro l2 l3 h; exact ww_f10_gcd_b4 C0  ih l2 l3 h
set_option maxRecDepth 100000 in
set_option maxHeartbeats 4000000 in
theorem kt_X10_gcd (l : Launch) (G : Gp) (p0 : Int32) (p1 : Int32) : ∀ {r : Int32}, f10_gcd p0 p1 = some r → CtrI l yX10_gcd cX10_gcd 5 (some .int) rmX10_gcd G [.int p0, .int p1] ([] : va_W) r ([] : va_W) := by
  intro res h
  refine ctrI_of (cc := cX10_gcd) (maxL := 5) (ret := (some .int)) (by decide +kernel) rfl (Nat.le_of_ble_eq_true rfl) (fun p e s m below meth c DA C0 hP hD ls hl => ?_)
  have hPD : WD G DA ([] : va_W) s.heap := ⟨hP, hD⟩
  have hS : va_S DA s.heap s.heap [] := va_S.rf
  have hl : lv_has ls 5 [(0, .int p0), (1, .int p1)] := hl
  obtain ⟨hx, hb, hml, hown, hts⟩ := C0.1
  have hK := C0.2.2.2.1
  unfold f10_gcd at h
  refine lv_iload_n hx hb dX10_gcd_0 rfl (lv_at hl 0 rfl) ?_
  refine lv_istore_n (lv' := [(2, .int p0), (0, .int p0), (1, .int p1)]) hx hb dX10_gcd_1 rfl hl (by decide) rfl (fun ls hl => ?_)
  refine lv_iload_n hx hb dX10_gcd_2 rfl (lv_at hl 2 rfl) ?_
  refine lv_istore_n (lv' := [(3, .int p1), (2, .int p0), (0, .int p0), (1, .int p1)]) hx hb dX10_gcd_3 rfl hl (by decide) rfl (fun ls hl => ?_)
  exact ww_f10_gcd_l4 C0 NF p0 p1 h _ _ _ hPD hS (lv_sub hl [2, 3, 1, 0] rfl)
abbrev rmX10_odds : Room := { frames := 1, cells := 0, slots := 0, locals := 24 }
set_option maxRecDepth 100000 in
set_option maxHeartbeats 4000000 in
theorem ww_f10_odds_b125  (C0 : Cx cX10_odds 8 (some .int) RX10 p s m args meth c G DA) {h0 : Nat} {a0 : Nat → Nat} {A0 : Nat → Nat → Int32} {p1 : Int32} {p2 : Int32}   {res : Int32 × (Nat → Int32)}  : ∀ (f0 : Nat → Int32) (l3 : Int32) (s0 : Int32), f10_odds_b125 A0 p1 p2  f0 l3 s0 = some res → ∀ (H : Heap) (locs : List Loc) (ls : Array Slot), WD G DA (wX10 G h0 a0 f0 A0) H → va_S DA s.heap H locs → lv_has ls 8 [(0, .ref h0), (1, .int p1), (2, .int p2), (3, .int l3)] → W p l e rmX10_odds s m args below meth c H locs 0 0 (MQ below (QI G DA res.1 (wX10 G h0 a0 res.2 A0)) args s 0 0 DA) (F0 m 125 ls [.int s0]) := by
  obtain ⟨hx, hb, hml, hown, hts⟩ := C0.1
  have hK := C0.2.2.2.1
  intro f0 l3 s0 h _ _ _ hPD hS hl
  unfold f10_odds_b125 at h
  refine lv_istore (lv' := [(6, .int s0), (0, .ref h0), (1, .int p1), (2, .int p2), (3, .int l3)]) hx hb dX10_odds_125 hl (by decide) rfl (fun ls hl => ?_)
  refine lv_iload_n hx hb dX10_odds_127 rfl (lv_at hl 4 rfl) ?_
  refine lv_iload hx hb dX10_odds_128 (lv_at hl 0 rfl) ?_
  obtain ⟨q_2, hq_2, h⟩ := ob2 h
  refine kSI (As := [.int l3, .int s0]) (rest := []) C0 (kt_X10_gcd l G  l3 s0 hq_2) gi_S_X10_381_X10_gcd (n := 2) rfl (by decide +kernel) ⟨rfl, rfl, Nat.le_of_ble_eq_true rfl, Nat.le_of_ble_eq_true rfl⟩ hPD hS [] [0, 1, 2, 3, 4, 5, 6, 7, 8, 9, 10, 11, 12, 13, 14, 15, 16, 17, 18, 19, 20, 21, 22, 23, 24, 25, 26, 27, 28, 29, 30, 31, 32, 33] [0, 1, 2, 3, 4, 5, 6, 7, 8, 9, 10, 11, 12, 13, 14, 15, 16, 17, 18, 19, 20, 21, 22, 23, 24, 25, 26, 27, 28, 29, 30, 31, 32, 33] (wr := (wX10 G h0 a0 f0 A0)) (wN := (wX10 G h0 a0 f0 A0)) rfl rfl rfl rfl rfl hl.1 (Nat.le_of_ble_eq_true rfl) dX10_odds_130 (fun H locs hPD hS => ?_)
  refine lv_istore (lv' := [(7, .int q_2), (6, .int s0), (0, .ref h0), (1, .int p1), (2, .int p2), (3, .int l3)]) hx hb dX10_odds_133 hl (by decide) rfl (fun ls hl => ?_)
  refine lv_iload_n hx hb dX10_odds_135 rfl (lv_at hl 4 rfl) ?_
  refine lv_iconst (v := 2) hx hb dX10_odds_136 (by decide) ?_
  refine lv_irem hx hb dX10_odds_137 (by decide) ?_
  refine lv_if_ne (tgt := 149) hx hb dX10_odds_138 (by decide) (fun cc1 => ?_) (fun cc1 => ?_)
  · have h := (if_neg cc1).symm.trans h
    refine lv_iload_n hx hb dX10_odds_149 rfl (lv_at hl 5 rfl) ?_
    refine lv_iload hx hb dX10_odds_150 (lv_at hl 0 rfl) ?_
    obtain ⟨hz, h⟩ := ob h
    refine lv_idiv hx hb dX10_odds_152 hz ?_
    obtain rfl := Option.some.inj h
    exact eI C0 hPD.1 hPD.2 hS rfl dX10_odds_153
  · have h := (if_pos cc1).symm.trans h
    refine lv_iload hx hb dX10_odds_141 (lv_at hl 1 rfl) ?_
    refine lv_iload hx hb dX10_odds_143 (lv_at hl 0 rfl) ?_
    obtain ⟨hz, h⟩ := ob h
    refine lv_idiv hx hb dX10_odds_145 hz ?_
    refine lv_goto (tgt := 153) hx hb dX10_odds_146 (by decide) ?_
    obtain rfl := Option.some.inj h
    exact eI C0 hPD.1 hPD.2 hS rfl dX10_odds_153
end WALK
