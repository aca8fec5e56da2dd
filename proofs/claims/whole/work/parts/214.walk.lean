section WALK
variable {p : Program} {l : Launch} {e : Env} {s : State} {m : MethodId} {args : Array Value} {below : List Frame} {meth : Method} {c : Code} {G : Gp} {DA : Nat → Prop}
abbrev rmX10_likely : Room := { frames := 2, cells := 0, slots := 0, locals := 45 }
set_option maxRecDepth 100000 in
set_option maxHeartbeats 4000000 in
theorem ww_f10_likely_b97  (C0 : Cx cX10_likely 9 (some .int) RX10 p s m args meth c G DA) {h0 : Nat} {a0 : Nat → Nat} {A0 : Nat → Nat → Int32} {p1 : Int32} {p2 : Int32}  {k47 : (Nat → Int32) → Int32 → Int32 → Int32 → Int32 → Option (Int32 × (Nat → Int32))} {res : Int32 × (Nat → Int32)} (hk47 : ∀ (f0 : Nat → Int32) (l3 : Int32) (l4 : Int32) (l5 : Int32) (l6 : Int32), k47 f0 l3 l4 l5 l6 = some res → ∀ (H : Heap) (locs : List Loc) (ls : Array Slot), WD G DA (wX10 G h0 a0 f0 A0) H → va_S DA s.heap H locs → lv_has ls 9 [(0, .ref h0), (1, .int p1), (2, .int p2), (3, .int l3), (4, .int l4), (5, .int l5), (6, .int l6)] → W p l e rmX10_likely s m args below meth c H locs 0 0 (MQ below (QI G DA res.1 (wX10 G h0 a0 res.2 A0)) args s 0 0 DA) (F0 m 47 ls [])) : ∀ (f0 : Nat → Int32) (l3 : Int32) (l4 : Int32) (l5 : Int32) (l6 : Int32), f10_likely_b97 A0 p1 p2 k47 f0 l3 l4 l5 l6 = some res → ∀ (H : Heap) (locs : List Loc) (ls : Array Slot), WD G DA (wX10 G h0 a0 f0 A0) H → va_S DA s.heap H locs → lv_has ls 9 [(0, .ref h0), (1, .int p1), (2, .int p2), (3, .int l3), (4, .int l4), (5, .int l5), (6, .int l6)] → W p l e rmX10_likely s m args below meth c H locs 0 0 (MQ below (QI G DA res.1 (wX10 G h0 a0 res.2 A0)) args s 0 0 DA) (F0 m 97 ls []) := by
  obtain ⟨hx, hb, hml, hown, hts⟩ := C0.1
  have hK := C0.2.2.2.1
  intro f0 l3 l4 l5 l6 h _ _ _ hPD hS hl
  unfold f10_likely_b97 at h
  refine lv_aload_n hx hb dX10_likely_97 rfl (lv_at hl 0 rfl) ?_
  refine lv_iconst (v := 2) hx hb dX10_likely_98 (by decide) ?_
  refine lv_iload hx hb dX10_likely_99 (lv_at hl 6 rfl) ?_
  refine lv_imul hx hb dX10_likely_101 ?_
  obtain ⟨q_2, hq_2, h⟩ := ob2 h
  refine kVI (As := [.int (2 * l6)]) (rest := []) C0 (kt_X10_octet l G h0 a0 f0 A0 (2 * l6) hq_2) gi_V_X10_360_X10_octet (n := 1) rfl (by decide +kernel) rfl ⟨rfl, rfl, Nat.le_of_ble_eq_true rfl, Nat.le_of_ble_eq_true rfl⟩ hPD hS 0 10 rfl rfl rfl [0, 1, 2, 3, 4, 5, 6, 7, 8, 9, 10, 11, 12, 13, 14, 15, 16, 17, 18, 19, 20, 21, 22, 23, 24, 25, 26, 27, 28, 29, 30, 31, 32, 33] [] [0, 1, 2, 3, 4, 5, 6, 7, 8, 9, 10, 11, 12, 13, 14, 15, 16, 17, 18, 19, 20, 21, 22, 23, 24, 25, 26, 27, 28, 29, 30, 31, 32, 33] (wN := (wX10 G h0 a0 f0 A0)) rfl rfl rfl rfl rfl hl.1 (Nat.le_of_ble_eq_true rfl) dX10_likely_102 (fun H locs hPD hS => ?_)
  refine lv_aload_n hx hb dX10_likely_105 rfl (lv_at hl 0 rfl) ?_
  refine lv_iconst (v := 2) hx hb dX10_likely_106 (by decide) ?_
  refine lv_iload hx hb dX10_likely_107 (lv_at hl 6 rfl) ?_
  refine lv_imul hx hb dX10_likely_109 ?_
  refine lv_iconst (v := 1) hx hb dX10_likely_110 (by decide) ?_
  refine lv_iadd hx hb dX10_likely_111 ?_
  obtain ⟨q_3, hq_3, h⟩ := ob2 h
  refine kVI (As := [.int ((2 * l6) + 1)]) (rest := [.int q_2]) C0 (kt_X10_octet l G h0 a0 f0 A0 ((2 * l6) + 1) hq_3) gi_V_X10_360_X10_octet (n := 1) rfl (by decide +kernel) rfl ⟨rfl, rfl, Nat.le_of_ble_eq_true rfl, Nat.le_of_ble_eq_true rfl⟩ hPD hS 0 10 rfl rfl rfl [0, 1, 2, 3, 4, 5, 6, 7, 8, 9, 10, 11, 12, 13, 14, 15, 16, 17, 18, 19, 20, 21, 22, 23, 24, 25, 26, 27, 28, 29, 30, 31, 32, 33] [] [0, 1, 2, 3, 4, 5, 6, 7, 8, 9, 10, 11, 12, 13, 14, 15, 16, 17, 18, 19, 20, 21, 22, 23, 24, 25, 26, 27, 28, 29, 30, 31, 32, 33] (wN := (wX10 G h0 a0 f0 A0)) rfl rfl rfl rfl rfl hl.1 (Nat.le_of_ble_eq_true rfl) dX10_likely_112 (fun H locs hPD hS => ?_)
  refine lv_imul hx hb dX10_likely_115 ?_
  refine lv_istore (lv' := [(8, .int (q_2 * q_3)), (0, .ref h0), (1, .int p1), (2, .int p2), (3, .int l3), (4, .int l4), (5, .int l5), (6, .int l6)]) hx hb dX10_likely_116 hl (by decide) rfl (fun ls hl => ?_)
  refine lv_iload hx hb dX10_likely_118 (lv_at hl 0 rfl) ?_
  refine lv_iload hx hb dX10_likely_120 (lv_at hl 5 rfl) ?_
  refine lv_icmp_gt (tgt := 128) hx hb dX10_likely_122 (by decide) (fun cc1 => ?_) (fun cc1 => ?_)
  · have h := (if_pos cc1).symm.trans h
    refine lv_iload hx hb dX10_likely_128 (lv_at hl 0 rfl) ?_
    refine lv_istore (lv' := [(4, .int (q_2 * q_3)), (8, .int (q_2 * q_3)), (0, .ref h0), (1, .int p1), (2, .int p2), (3, .int l3), (5, .int l5), (6, .int l6)]) hx hb dX10_likely_130 hl (by decide) rfl (fun ls hl => ?_)
    refine lv_iload hx hb dX10_likely_132 (lv_at hl 7 rfl) ?_
    refine lv_istore (lv' := [(5, .int l6), (4, .int (q_2 * q_3)), (8, .int (q_2 * q_3)), (0, .ref h0), (1, .int p1), (2, .int p2), (3, .int l3), (6, .int l6)]) hx hb dX10_likely_134 hl (by decide) rfl (fun ls hl => ?_)
    refine lv_iinc (v := l6 + 1) (lv' := [(6, .int (l6 + 1)), (5, .int l6), (4, .int (q_2 * q_3)), (8, .int (q_2 * q_3)), (0, .ref h0), (1, .int p1), (2, .int p2), (3, .int l3)]) hx hb dX10_likely_136 hl (k := 7) rfl rfl (by decide) rfl (fun ls hl => ?_)
    refine lv_goto (tgt := 47) hx hb dX10_likely_139 (by decide) ?_
    exact hk47 f0 l3 (q_2 * q_3) l6 (l6 + 1) h _ _ _ hPD hS (lv_sub hl [4, 5, 6, 7, 2, 1, 0] rfl)
  · have h := (if_neg cc1).symm.trans h
    refine lv_goto (tgt := 136) hx hb dX10_likely_125 (by decide) ?_
    refine lv_iinc (v := l6 + 1) (lv' := [(6, .int (l6 + 1)), (8, .int (q_2 * q_3)), (0, .ref h0), (1, .int p1), (2, .int p2), (3, .int l3), (4, .int l4), (5, .int l5)]) hx hb dX10_likely_136 hl (k := 7) rfl rfl (by decide) rfl (fun ls hl => ?_)
    refine lv_goto (tgt := 47) hx hb dX10_likely_139 (by decide) ?_
    exact hk47 f0 l3 l4 l5 (l6 + 1) h _ _ _ hPD hS (lv_sub hl [2, 3, 4, 5, 6, 7, 0] rfl)
set_option maxRecDepth 100000 in
set_option maxHeartbeats 4000000 in
theorem ww_f10_likely_b59  (C0 : Cx cX10_likely 9 (some .int) RX10 p s m args meth c G DA) {h0 : Nat} {a0 : Nat → Nat} {A0 : Nat → Nat → Int32} {p1 : Int32} {p2 : Int32}  {k47 : (Nat → Int32) → Int32 → Int32 → Int32 → Int32 → Option (Int32 × (Nat → Int32))} {k59 : (Nat → Int32) → Int32 → Int32 → Int32 → Int32 → Int32 → Int32 → Option (Int32 × (Nat → Int32))} {res : Int32 × (Nat → Int32)} (hk47 : ∀ (f0 : Nat → Int32) (l3 : Int32) (l4 : Int32) (l5 : Int32) (l6 : Int32), k47 f0 l3 l4 l5 l6 = some res → ∀ (H : Heap) (locs : List Loc) (ls : Array Slot), WD G DA (wX10 G h0 a0 f0 A0) H → va_S DA s.heap H locs → lv_has ls 9 [(0, .ref h0), (1, .int p1), (2, .int p2), (3, .int l3), (4, .int l4), (5, .int l5), (6, .int l6)] → W p l e rmX10_likely s m args below meth c H locs 0 0 (MQ below (QI G DA res.1 (wX10 G h0 a0 res.2 A0)) args s 0 0 DA) (F0 m 47 ls [])) (hk59 : ∀ (f0 : Nat → Int32) (l3 : Int32) (l4 : Int32) (l5 : Int32) (l6 : Int32) (l7 : Int32) (l8 : Int32), k59 f0 l3 l4 l5 l6 l7 l8 = some res → ∀ (H : Heap) (locs : List Loc) (ls : Array Slot), WD G DA (wX10 G h0 a0 f0 A0) H → va_S DA s.heap H locs → lv_has ls 9 [(0, .ref h0), (1, .int p1), (2, .int p2), (3, .int l3), (4, .int l4), (5, .int l5), (6, .int l6), (7, .int l7), (8, .int l8)] → W p l e rmX10_likely s m args below meth c H locs 0 0 (MQ below (QI G DA res.1 (wX10 G h0 a0 res.2 A0)) args s 0 0 DA) (F0 m 59 ls [])) : ∀ (f0 : Nat → Int32) (l3 : Int32) (l4 : Int32) (l5 : Int32) (l6 : Int32) (l7 : Int32) (l8 : Int32), f10_likely_b59 A0 p1 p2 k47 k59 f0 l3 l4 l5 l6 l7 l8 = some res → ∀ (H : Heap) (locs : List Loc) (ls : Array Slot), WD G DA (wX10 G h0 a0 f0 A0) H → va_S DA s.heap H locs → lv_has ls 9 [(0, .ref h0), (1, .int p1), (2, .int p2), (3, .int l3), (4, .int l4), (5, .int l5), (6, .int l6), (7, .int l7), (8, .int l8)] → W p l e rmX10_likely s m args below meth c H locs 0 0 (MQ below (QI G DA res.1 (wX10 G h0 a0 res.2 A0)) args s 0 0 DA) (F0 m 59 ls []) := by
  obtain ⟨hx, hb, hml, hown, hts⟩ := C0.1
  have hK := C0.2.2.2.1
  intro f0 l3 l4 l5 l6 l7 l8 h _ _ _ hPD hS hl
  unfold f10_likely_b59 at h
  refine lv_iload hx hb dX10_likely_59 (lv_at hl 8 rfl) ?_
  refine lv_iload_n hx hb dX10_likely_61 rfl (lv_at hl 1 rfl) ?_
  refine lv_icmp_ge (tgt := 85) hx hb dX10_likely_62 (by decide) (fun cc1 => ?_) (fun cc1 => ?_)
  · have h := (if_pos cc1).symm.trans h
    refine lv_iload hx hb dX10_likely_85 (lv_at hl 7 rfl) ?_
    refine lv_if_ne (tgt := 97) hx hb dX10_likely_87 (by decide) (fun cc1 => ?_) (fun cc1 => ?_)
    · have h := (if_neg cc1).symm.trans h
      exact ww_f10_likely_b97 C0 hk47 f0 l3 l4 l5 l6 h _ _ _ hPD hS (lv_sub hl [0, 1, 2, 3, 4, 5, 6] rfl)
    · have h := (if_pos cc1).symm.trans h
      refine lv_iload_n hx hb dX10_likely_90 rfl (lv_at hl 3 rfl) ?_
      refine lv_iconst (v := 1) hx hb dX10_likely_91 (by decide) ?_
      refine lv_iload hx hb dX10_likely_92 (lv_at hl 6 rfl) ?_
      refine lv_ishl hx hb dX10_likely_94 ?_
      refine lv_ior hx hb dX10_likely_95 ?_
      refine lv_istore_n (lv' := [(3, .int (l3 ||| (shl 1 l6))), (0, .ref h0), (1, .int p1), (2, .int p2), (4, .int l4), (5, .int l5), (6, .int l6), (7, .int l7), (8, .int l8)]) hx hb dX10_likely_96 rfl hl (by decide) rfl (fun ls hl => ?_)
      exact ww_f10_likely_b97 C0 hk47 f0 (l3 ||| (shl 1 l6)) l4 l5 l6 h _ _ _ hPD hS (lv_sub hl [1, 2, 3, 0, 4, 5, 6] rfl)
  · have h := (if_neg cc1).symm.trans h
    refine lv_aload_n hx hb dX10_likely_65 rfl (lv_at hl 0 rfl) ?_
    refine lv_iload hx hb dX10_likely_66 (lv_at hl 8 rfl) ?_
    refine lv_iload hx hb dX10_likely_68 (lv_at hl 6 rfl) ?_
    obtain ⟨q_4, hq_4, h⟩ := ob2 h
    refine kVI (As := [.int l8, .int l6]) (rest := []) C0 (kt_X10_beats l G h0 a0 f0 A0 l8 l6 hq_4) gi_V_X10_378_X10_beats (n := 2) rfl (by decide +kernel) rfl ⟨rfl, rfl, Nat.le_of_ble_eq_true rfl, Nat.le_of_ble_eq_true rfl⟩ hPD hS 0 10 rfl rfl rfl [0, 1, 2, 3, 4, 5, 6, 7, 8, 9, 10, 11, 12, 13, 14, 15, 16, 17, 18, 19, 20, 21, 22, 23, 24, 25, 26, 27, 28, 29, 30, 31, 32, 33] [] [0, 1, 2, 3, 4, 5, 6, 7, 8, 9, 10, 11, 12, 13, 14, 15, 16, 17, 18, 19, 20, 21, 22, 23, 24, 25, 26, 27, 28, 29, 30, 31, 32, 33] (wN := (wX10 G h0 a0 f0 A0)) rfl rfl rfl rfl rfl hl.1 (Nat.le_of_ble_eq_true rfl) dX10_likely_70 (fun H locs hPD hS => ?_)
    refine lv_if_eq (tgt := 79) hx hb dX10_likely_73 (by decide) (fun cc1 => ?_) (fun cc1 => ?_)
    · have h := (if_pos cc1).symm.trans h
      refine lv_iinc (v := l8 + 1) (lv' := [(8, .int (l8 + 1)), (0, .ref h0), (1, .int p1), (2, .int p2), (3, .int l3), (4, .int l4), (5, .int l5), (6, .int l6), (7, .int l7)]) hx hb dX10_likely_79 hl (k := 8) rfl rfl (by decide) rfl (fun ls hl => ?_)
      refine lv_goto (tgt := 59) hx hb dX10_likely_82 (by decide) ?_
      exact hk59 f0 l3 l4 l5 l6 l7 (l8 + 1) h _ _ _ hPD hS (lv_sub hl [1, 2, 3, 4, 5, 6, 7, 8, 0] rfl)
    · have h := (if_neg cc1).symm.trans h
      refine lv_iconst (v := 1) hx hb dX10_likely_76 (by decide) ?_
      refine lv_istore (lv' := [(7, .int 1), (0, .ref h0), (1, .int p1), (2, .int p2), (3, .int l3), (4, .int l4), (5, .int l5), (6, .int l6), (8, .int l8)]) hx hb dX10_likely_77 hl (by decide) rfl (fun ls hl => ?_)
      refine lv_iinc (v := l8 + 1) (lv' := [(8, .int (l8 + 1)), (7, .int 1), (0, .ref h0), (1, .int p1), (2, .int p2), (3, .int l3), (4, .int l4), (5, .int l5), (6, .int l6)]) hx hb dX10_likely_79 hl (k := 8) rfl rfl (by decide) rfl (fun ls hl => ?_)
      refine lv_goto (tgt := 59) hx hb dX10_likely_82 (by decide) ?_
      exact hk59 f0 l3 l4 l5 l6 1 (l8 + 1) h _ _ _ hPD hS (lv_sub hl [2, 3, 4, 5, 6, 7, 8, 1, 0] rfl)
set_option maxRecDepth 100000 in
set_option maxHeartbeats 4000000 in
theorem ww_f10_likely_l59  (C0 : Cx cX10_likely 9 (some .int) RX10 p s m args meth c G DA) {h0 : Nat} {a0 : Nat → Nat} {A0 : Nat → Nat → Int32} {p1 : Int32} {p2 : Int32}  {k47 : (Nat → Int32) → Int32 → Int32 → Int32 → Int32 → Option (Int32 × (Nat → Int32))} {res : Int32 × (Nat → Int32)} (hk47 : ∀ (f0 : Nat → Int32) (l3 : Int32) (l4 : Int32) (l5 : Int32) (l6 : Int32), k47 f0 l3 l4 l5 l6 = some res → ∀ (H : Heap) (locs : List Loc) (ls : Array Slot), WD G DA (wX10 G h0 a0 f0 A0) H → va_S DA s.heap H locs → lv_has ls 9 [(0, .ref h0), (1, .int p1), (2, .int p2), (3, .int l3), (4, .int l4), (5, .int l5), (6, .int l6)] → W p l e rmX10_likely s m args below meth c H locs 0 0 (MQ below (QI G DA res.1 (wX10 G h0 a0 res.2 A0)) args s 0 0 DA) (F0 m 47 ls [])) : ∀ (n : Nat) (f0 : Nat → Int32) (l3 : Int32) (l4 : Int32) (l5 : Int32) (l6 : Int32) (l7 : Int32) (l8 : Int32), f10_likely_l59 A0 p1 p2 k47 n f0 l3 l4 l5 l6 l7 l8 = some res → ∀ (H : Heap) (locs : List Loc) (ls : Array Slot), WD G DA (wX10 G h0 a0 f0 A0) H → va_S DA s.heap H locs → lv_has ls 9 [(0, .ref h0), (1, .int p1), (2, .int p2), (3, .int l3), (4, .int l4), (5, .int l5), (6, .int l6), (7, .int l7), (8, .int l8)] → W p l e rmX10_likely s m args below meth c H locs 0 0 (MQ below (QI G DA res.1 (wX10 G h0 a0 res.2 A0)) args s 0 0 DA) (F0 m 59 ls []) := by
  intro n
  induction n with
  | zero => intro f0 l3 l4 l5 l6 l7 l8 h; cases h
  | succ n ih => intro f0 l3 l4 l5 l6 l7 l8 h; exact ww_f10_likely_b59 C0 hk47 ih f0 l3 l4 l5 l6 l7 l8 h
set_option maxRecDepth 100000 in
set_option maxHeartbeats 4000000 in
theorem ww_f10_likely_b47  (C0 : Cx cX10_likely 9 (some .int) RX10 p s m args meth c G DA) {h0 : Nat} {a0 : Nat → Nat} {A0 : Nat → Nat → Int32} {p1 : Int32} {p2 : Int32}  {k47 : (Nat → Int32) → Int32 → Int32 → Int32 → Int32 → Option (Int32 × (Nat → Int32))} {res : Int32 × (Nat → Int32)}  (hk47 : ∀ (f0 : Nat → Int32) (l3 : Int32) (l4 : Int32) (l5 : Int32) (l6 : Int32), k47 f0 l3 l4 l5 l6 = some res → ∀ (H : Heap) (locs : List Loc) (ls : Array Slot), WD G DA (wX10 G h0 a0 f0 A0) H → va_S DA s.heap H locs → lv_has ls 9 [(0, .ref h0), (1, .int p1), (2, .int p2), (3, .int l3), (4, .int l4), (5, .int l5), (6, .int l6)] → W p l e rmX10_likely s m args below meth c H locs 0 0 (MQ below (QI G DA res.1 (wX10 G h0 a0 res.2 A0)) args s 0 0 DA) (F0 m 47 ls [])) : ∀ (f0 : Nat → Int32) (l3 : Int32) (l4 : Int32) (l5 : Int32) (l6 : Int32), f10_likely_b47 A0 p1 p2  k47 f0 l3 l4 l5 l6 = some res → ∀ (H : Heap) (locs : List Loc) (ls : Array Slot), WD G DA (wX10 G h0 a0 f0 A0) H → va_S DA s.heap H locs → lv_has ls 9 [(0, .ref h0), (1, .int p1), (2, .int p2), (3, .int l3), (4, .int l4), (5, .int l5), (6, .int l6)] → W p l e rmX10_likely s m args below meth c H locs 0 0 (MQ below (QI G DA res.1 (wX10 G h0 a0 res.2 A0)) args s 0 0 DA) (F0 m 47 ls []) := by
  obtain ⟨hx, hb, hml, hown, hts⟩ := C0.1
  have hK := C0.2.2.2.1
  intro f0 l3 l4 l5 l6 h _ _ _ hPD hS hl
  unfold f10_likely_b47 at h
  refine lv_iload hx hb dX10_likely_47 (lv_at hl 6 rfl) ?_
  refine lv_iload_n hx hb dX10_likely_49 rfl (lv_at hl 1 rfl) ?_
  refine lv_icmp_ge (tgt := 142) hx hb dX10_likely_50 (by decide) (fun cc1 => ?_) (fun cc1 => ?_)
  · have h := (if_pos cc1).symm.trans h
    refine lv_iload_n hx hb dX10_likely_142 rfl (lv_at hl 2 rfl) ?_
    refine lv_if_ne (tgt := 150) hx hb dX10_likely_143 (by decide) (fun cc1 => ?_) (fun cc1 => ?_)
    · have h := (if_neg cc1).symm.trans h
      refine lv_iload_n hx hb dX10_likely_150 rfl (lv_at hl 2 rfl) ?_
      refine lv_iconst (v := 1) hx hb dX10_likely_151 (by decide) ?_
      refine lv_icmp_ne (tgt := 160) hx hb dX10_likely_152 (by decide) (fun cc1 => ?_) (fun cc1 => ?_)
      · have h := (if_neg cc1).symm.trans h
        refine lv_iload hx hb dX10_likely_160 (lv_at hl 5 rfl) ?_
        obtain rfl := Option.some.inj h
        exact eI C0 hPD.1 hPD.2 hS rfl dX10_likely_162
      · have h := (if_pos cc1).symm.trans h
        refine lv_iload hx hb dX10_likely_155 (lv_at hl 4 rfl) ?_
        refine lv_goto (tgt := 162) hx hb dX10_likely_157 (by decide) ?_
        obtain rfl := Option.some.inj h
        exact eI C0 hPD.1 hPD.2 hS rfl dX10_likely_162
    · have h := (if_pos cc1).symm.trans h
      refine lv_iload_n hx hb dX10_likely_146 rfl (lv_at hl 3 rfl) ?_
      refine lv_goto (tgt := 162) hx hb dX10_likely_147 (by decide) ?_
      obtain rfl := Option.some.inj h
      exact eI C0 hPD.1 hPD.2 hS rfl dX10_likely_162
  · have h := (if_neg cc1).symm.trans h
    refine lv_iconst (v := 0) hx hb dX10_likely_53 (by decide) ?_
    refine lv_istore (lv' := [(7, .int 0), (0, .ref h0), (1, .int p1), (2, .int p2), (3, .int l3), (4, .int l4), (5, .int l5), (6, .int l6)]) hx hb dX10_likely_54 hl (by decide) rfl (fun ls hl => ?_)
    refine lv_iconst (v := 0) hx hb dX10_likely_56 (by decide) ?_
    refine lv_istore (lv' := [(8, .int 0), (7, .int 0), (0, .ref h0), (1, .int p1), (2, .int p2), (3, .int l3), (4, .int l4), (5, .int l5), (6, .int l6)]) hx hb dX10_likely_57 hl (by decide) rfl (fun ls hl => ?_)
    exact ww_f10_likely_l59 C0 hk47 NF f0 l3 l4 l5 l6 0 0 h _ _ _ hPD hS (lv_sub hl [2, 3, 4, 5, 6, 7, 8, 1, 0] rfl)
set_option maxRecDepth 100000 in
set_option maxHeartbeats 4000000 in
theorem ww_f10_likely_l47  (C0 : Cx cX10_likely 9 (some .int) RX10 p s m args meth c G DA) {h0 : Nat} {a0 : Nat → Nat} {A0 : Nat → Nat → Int32} {p1 : Int32} {p2 : Int32}   {res : Int32 × (Nat → Int32)}  : ∀ (n : Nat) (f0 : Nat → Int32) (l3 : Int32) (l4 : Int32) (l5 : Int32) (l6 : Int32), f10_likely_l47 A0 p1 p2  n f0 l3 l4 l5 l6 = some res → ∀ (H : Heap) (locs : List Loc) (ls : Array Slot), WD G DA (wX10 G h0 a0 f0 A0) H → va_S DA s.heap H locs → lv_has ls 9 [(0, .ref h0), (1, .int p1), (2, .int p2), (3, .int l3), (4, .int l4), (5, .int l5), (6, .int l6)] → W p l e rmX10_likely s m args below meth c H locs 0 0 (MQ below (QI G DA res.1 (wX10 G h0 a0 res.2 A0)) args s 0 0 DA) (F0 m 47 ls []) := by
  intro n
  induction n with
  | zero => intro f0 l3 l4 l5 l6 h; cases h
  | succ n ih => intro f0 l3 l4 l5 l6 h; exact ww_f10_likely_b47 C0  ih f0 l3 l4 l5 l6 h
set_option maxRecDepth 100000 in
set_option maxHeartbeats 4000000 in
theorem kt_X10_likely (l : Launch) (G : Gp) (h0 : Nat) (a0 : Nat → Nat) (f0 : Nat → Int32) (A0 : Nat → Nat → Int32) (p1 : Int32) (p2 : Int32) : ∀ {r : Int32 × (Nat → Int32)}, f10_likely f0 A0 p1 p2 = some r → CtrI l yX10_likely cX10_likely 9 (some .int) rmX10_likely G [.ref h0, .int p1, .int p2] (wX10 G h0 a0 f0 A0) r.1 (wX10 G h0 a0 r.2 A0) := by
  intro res h
  refine ctrI_of (cc := cX10_likely) (maxL := 9) (ret := (some .int)) (by decide +kernel) rfl (Nat.le_of_ble_eq_true rfl) (fun p e s m below meth c DA C0 hP hD ls hl => ?_)
  have hPD : WD G DA (wX10 G h0 a0 f0 A0) s.heap := ⟨hP, hD⟩
  have hS : va_S DA s.heap s.heap [] := va_S.rf
  have hl : lv_has ls 9 [(0, .ref h0), (1, .int p1), (2, .int p2)] := hl
  obtain ⟨hx, hb, hml, hown, hts⟩ := C0.1
  have hK := C0.2.2.2.1
  unfold f10_likely at h
  refine lv_iload_n hx hb dX10_likely_0 rfl (lv_at hl 1 rfl) ?_
  refine lv_iconst (v := 1) hx hb dX10_likely_1 (by decide) ?_
  refine lv_bipush (v := 16) hx hb dX10_likely_2 (by decide) ?_
  refine kSI (As := [.int p1, .int 1, .int 16]) (rest := []) C0 (kt_X10_in l G  p1 1 16) gi_S_X10_112_X10_in (n := 3) rfl (by decide +kernel) ⟨rfl, rfl, Nat.le_of_ble_eq_true rfl, Nat.le_of_ble_eq_true rfl⟩ hPD hS [] [0, 1, 2, 3, 4, 5, 6, 7, 8, 9, 10, 11, 12, 13, 14, 15, 16, 17, 18, 19, 20, 21, 22, 23, 24, 25, 26, 27, 28, 29, 30, 31, 32, 33] [0, 1, 2, 3, 4, 5, 6, 7, 8, 9, 10, 11, 12, 13, 14, 15, 16, 17, 18, 19, 20, 21, 22, 23, 24, 25, 26, 27, 28, 29, 30, 31, 32, 33] (wN := (wX10 G h0 a0 f0 A0)) rfl rfl rfl rfl rfl hl.1 (Nat.le_of_ble_eq_true rfl) dX10_likely_4 (fun H locs hPD hS => ?_)
  refine lv_if_eq (tgt := 29) hx hb dX10_likely_7 (by decide) (fun cc1 => ?_) (fun cc1 => ?_)
  · have h := (if_pos cc1).symm.trans h
    refine lv_iconst (v := (-1)) hx hb dX10_likely_29 (by decide) ?_
    obtain rfl := Option.some.inj h
    exact eI C0 hPD.1 hPD.2 hS rfl dX10_likely_30
  · have h := (if_neg cc1).symm.trans h
    refine lv_iload_n hx hb dX10_likely_10 rfl (lv_at hl 2 rfl) ?_
    refine lv_iconst (v := 0) hx hb dX10_likely_11 (by decide) ?_
    refine lv_iconst (v := 2) hx hb dX10_likely_12 (by decide) ?_
    refine kSI (As := [.int p2, .int 0, .int 2]) (rest := []) C0 (kt_X10_in l G  p2 0 2) gi_S_X10_112_X10_in (n := 3) rfl (by decide +kernel) ⟨rfl, rfl, Nat.le_of_ble_eq_true rfl, Nat.le_of_ble_eq_true rfl⟩ hPD hS [] [0, 1, 2, 3, 4, 5, 6, 7, 8, 9, 10, 11, 12, 13, 14, 15, 16, 17, 18, 19, 20, 21, 22, 23, 24, 25, 26, 27, 28, 29, 30, 31, 32, 33] [0, 1, 2, 3, 4, 5, 6, 7, 8, 9, 10, 11, 12, 13, 14, 15, 16, 17, 18, 19, 20, 21, 22, 23, 24, 25, 26, 27, 28, 29, 30, 31, 32, 33] (wN := (wX10 G h0 a0 f0 A0)) rfl rfl rfl rfl rfl hl.1 (Nat.le_of_ble_eq_true rfl) dX10_likely_13 (fun H locs hPD hS => ?_)
    refine lv_if_eq (tgt := 29) hx hb dX10_likely_16 (by decide) (fun cc1 => ?_) (fun cc1 => ?_)
    · have h := (if_pos cc1).symm.trans h
      refine lv_iconst (v := (-1)) hx hb dX10_likely_29 (by decide) ?_
      obtain rfl := Option.some.inj h
      exact eI C0 hPD.1 hPD.2 hS rfl dX10_likely_30
    · have h := (if_neg cc1).symm.trans h
      refine lv_iconst (v := 2) hx hb dX10_likely_19 (by decide) ?_
      refine lv_iload_n hx hb dX10_likely_20 rfl (lv_at hl 1 rfl) ?_
      refine lv_imul hx hb dX10_likely_21 ?_
      refine lv_aload_n hx hb dX10_likely_22 rfl (lv_at hl 0 rfl) ?_
      refine va_get (D := G.1) (ci := 10) (v := .int (f0 8)) (C := RX10) (T := TX10) (N := 52) hx hb hts inlX10 hown hK hPD.1 0 rfl rfl 8 (by decide) (hts _ gw_549) (fun _ h9 => h9) rfl dX10_likely_23 ?_
      refine lv_icmp_le (tgt := 31) hx hb dX10_likely_26 (by decide) (fun cc1 => ?_) (fun cc1 => ?_)
      · have h := (if_pos cc1).symm.trans h
        refine lv_aload_n hx hb dX10_likely_31 rfl (lv_at hl 0 rfl) ?_
        refine lv_iconst (v := 0) hx hb dX10_likely_32 (by decide) ?_
        refine va_put (D := G.1) (ci := 10) (v := .int 0) (ty := .int) (C := RX10) (T := TX10) (N := 52) hx hb hts inlX10 tyX10 tyX10_ok nmX10 hown hK hPD.1 hPD.2 hS 0 rfl rfl 8 (by decide) (hts _ gw_549) (fun _ h9 => h9) rfl (by decide +kernel) rfl rfl (Nat.le_of_ble_eq_true rfl) dX10_likely_33 (fun H locs hP hD hS => ?_)
        obtain ⟨f0_1, ef0_1, h⟩ := lvl h
        have hPD : WD G DA (wX10 G h0 a0 f0_1 A0) H := by rw [ef0_1]; exact ⟨hP, hD⟩
        clear ef0_1 hP hD
        refine lv_iconst (v := 0) hx hb dX10_likely_36 (by decide) ?_
        refine lv_istore_n (lv' := [(3, .int 0), (0, .ref h0), (1, .int p1), (2, .int p2)]) hx hb dX10_likely_37 rfl hl (by decide) rfl (fun ls hl => ?_)
        refine lv_iconst (v := (-1)) hx hb dX10_likely_38 (by decide) ?_
        refine lv_istore (lv' := [(4, .int (-1)), (3, .int 0), (0, .ref h0), (1, .int p1), (2, .int p2)]) hx hb dX10_likely_39 hl (by decide) rfl (fun ls hl => ?_)
        refine lv_iconst (v := 0) hx hb dX10_likely_41 (by decide) ?_
        refine lv_istore (lv' := [(5, .int 0), (4, .int (-1)), (3, .int 0), (0, .ref h0), (1, .int p1), (2, .int p2)]) hx hb dX10_likely_42 hl (by decide) rfl (fun ls hl => ?_)
        refine lv_iconst (v := 0) hx hb dX10_likely_44 (by decide) ?_
        refine lv_istore (lv' := [(6, .int 0), (5, .int 0), (4, .int (-1)), (3, .int 0), (0, .ref h0), (1, .int p1), (2, .int p2)]) hx hb dX10_likely_45 hl (by decide) rfl (fun ls hl => ?_)
        exact ww_f10_likely_l47 C0 NF f0_1 0 (-1) 0 0 h _ _ _ hPD hS (lv_sub hl [4, 5, 6, 3, 2, 1, 0] rfl)
      · have h := (if_neg cc1).symm.trans h
        refine lv_iconst (v := (-1)) hx hb dX10_likely_29 (by decide) ?_
        obtain rfl := Option.some.inj h
        exact eI C0 hPD.1 hPD.2 hS rfl dX10_likely_30
abbrev rmX10_share : Room := { frames := 1, cells := 0, slots := 0, locals := 22 }
set_option maxRecDepth 100000 in
set_option maxHeartbeats 4000000 in
theorem ww_f10_share_b42  (C0 : Cx cX10_share 8 (some .int) RX10 p s m args meth c G DA) {h0 : Nat} {a0 : Nat → Nat} {A0 : Nat → Nat → Int32} {p1 : Int32} {p2 : Int32}  {k42 : (Nat → Int32) → Int32 → Int32 → Option (Int32 × (Nat → Int32))} {res : Int32 × (Nat → Int32)}  (hk42 : ∀ (f0 : Nat → Int32) (l3 : Int32) (l4 : Int32), k42 f0 l3 l4 = some res → ∀ (H : Heap) (locs : List Loc) (ls : Array Slot), WD G DA (wX10 G h0 a0 f0 A0) H → va_S DA s.heap H locs → lv_has ls 8 [(0, .ref h0), (1, .int p1), (2, .int p2), (3, .int l3), (4, .int l4)] → W p l e rmX10_share s m args below meth c H locs 0 0 (MQ below (QI G DA res.1 (wX10 G h0 a0 res.2 A0)) args s 0 0 DA) (F0 m 42 ls [])) : ∀ (f0 : Nat → Int32) (l3 : Int32) (l4 : Int32), f10_share_b42 A0 p1 p2  k42 f0 l3 l4 = some res → ∀ (H : Heap) (locs : List Loc) (ls : Array Slot), WD G DA (wX10 G h0 a0 f0 A0) H → va_S DA s.heap H locs → lv_has ls 8 [(0, .ref h0), (1, .int p1), (2, .int p2), (3, .int l3), (4, .int l4)] → W p l e rmX10_share s m args below meth c H locs 0 0 (MQ below (QI G DA res.1 (wX10 G h0 a0 res.2 A0)) args s 0 0 DA) (F0 m 42 ls []) := by
  obtain ⟨hx, hb, hml, hown, hts⟩ := C0.1
  have hK := C0.2.2.2.1
  intro f0 l3 l4 h _ _ _ hPD hS hl
  unfold f10_share_b42 at h
  refine lv_iload hx hb dX10_share_42 (lv_at hl 4 rfl) ?_
  refine lv_iload_n hx hb dX10_share_44 rfl (lv_at hl 1 rfl) ?_
  refine lv_icmp_ge (tgt := 134) hx hb dX10_share_45 (by decide) (fun cc1 => ?_) (fun cc1 => ?_)
  · have h := (if_pos cc1).symm.trans h
    refine lv_iload_n hx hb dX10_share_134 rfl (lv_at hl 3 rfl) ?_
    obtain rfl := Option.some.inj h
    exact eI C0 hPD.1 hPD.2 hS rfl dX10_share_135
  · have h := (if_neg cc1).symm.trans h
    refine lv_aload_n hx hb dX10_share_48 rfl (lv_at hl 0 rfl) ?_
    refine lv_iconst (v := 2) hx hb dX10_share_49 (by decide) ?_
    refine lv_iload hx hb dX10_share_50 (lv_at hl 4 rfl) ?_
    refine lv_imul hx hb dX10_share_52 ?_
    refine lv_iconst (v := 1) hx hb dX10_share_53 (by decide) ?_
    refine lv_iadd hx hb dX10_share_54 ?_
    obtain ⟨q_2, hq_2, h⟩ := ob2 h
    refine kVI (As := [.int ((2 * l4) + 1)]) (rest := []) C0 (kt_X10_octet l G h0 a0 f0 A0 ((2 * l4) + 1) hq_2) gi_V_X10_360_X10_octet (n := 1) rfl (by decide +kernel) rfl ⟨rfl, rfl, Nat.le_of_ble_eq_true rfl, Nat.le_of_ble_eq_true rfl⟩ hPD hS 0 10 rfl rfl rfl [0, 1, 2, 3, 4, 5, 6, 7, 8, 9, 10, 11, 12, 13, 14, 15, 16, 17, 18, 19, 20, 21, 22, 23, 24, 25, 26, 27, 28, 29, 30, 31, 32, 33] [] [0, 1, 2, 3, 4, 5, 6, 7, 8, 9, 10, 11, 12, 13, 14, 15, 16, 17, 18, 19, 20, 21, 22, 23, 24, 25, 26, 27, 28, 29, 30, 31, 32, 33] (wN := (wX10 G h0 a0 f0 A0)) rfl rfl rfl rfl rfl hl.1 (Nat.le_of_ble_eq_true rfl) dX10_share_55 (fun H locs hPD hS => ?_)
    refine lv_istore (lv' := [(5, .int q_2), (0, .ref h0), (1, .int p1), (2, .int p2), (3, .int l3), (4, .int l4)]) hx hb dX10_share_58 hl (by decide) rfl (fun ls hl => ?_)
    refine lv_iload hx hb dX10_share_60 (lv_at hl 0 rfl) ?_
    refine lv_iload_n hx hb dX10_share_62 rfl (lv_at hl 3 rfl) ?_
    refine kSI (As := [.int q_2, .int p2]) (rest := []) C0 (kt_X10_has l G  q_2 p2) gi_S_X10_120_X10_has (n := 2) rfl (by decide +kernel) ⟨rfl, rfl, Nat.le_of_ble_eq_true rfl, Nat.le_of_ble_eq_true rfl⟩ hPD hS [] [0, 1, 2, 3, 4, 5, 6, 7, 8, 9, 10, 11, 12, 13, 14, 15, 16, 17, 18, 19, 20, 21, 22, 23, 24, 25, 26, 27, 28, 29, 30, 31, 32, 33] [0, 1, 2, 3, 4, 5, 6, 7, 8, 9, 10, 11, 12, 13, 14, 15, 16, 17, 18, 19, 20, 21, 22, 23, 24, 25, 26, 27, 28, 29, 30, 31, 32, 33] (wN := (wX10 G h0 a0 f0 A0)) rfl rfl rfl rfl rfl hl.1 (Nat.le_of_ble_eq_true rfl) dX10_share_63 (fun H locs hPD hS => ?_)
    refine lv_if_ne (tgt := 72) hx hb dX10_share_66 (by decide) (fun cc1 => ?_) (fun cc1 => ?_)
    · have h := (if_neg cc1).symm.trans h
      refine lv_iload hx hb dX10_share_72 (lv_at hl 0 rfl) ?_
      obtain ⟨q_3, hq_3, h⟩ := ob2 h
      refine kSI (As := [.int q_2]) (rest := []) C0 (kt_X10_bits l G  q_2 hq_3) gi_S_X10_244_X10_bits (n := 1) rfl (by decide +kernel) ⟨rfl, rfl, Nat.le_of_ble_eq_true rfl, Nat.le_of_ble_eq_true rfl⟩ hPD hS [] [0, 1, 2, 3, 4, 5, 6, 7, 8, 9, 10, 11, 12, 13, 14, 15, 16, 17, 18, 19, 20, 21, 22, 23, 24, 25, 26, 27, 28, 29, 30, 31, 32, 33] [0, 1, 2, 3, 4, 5, 6, 7, 8, 9, 10, 11, 12, 13, 14, 15, 16, 17, 18, 19, 20, 21, 22, 23, 24, 25, 26, 27, 28, 29, 30, 31, 32, 33] (wN := (wX10 G h0 a0 f0 A0)) rfl rfl rfl rfl rfl hl.1 (Nat.le_of_ble_eq_true rfl) dX10_share_74 (fun H locs hPD hS => ?_)
      refine lv_istore (lv' := [(6, .int q_3), (5, .int q_2), (0, .ref h0), (1, .int p1), (2, .int p2), (3, .int l3), (4, .int l4)]) hx hb dX10_share_77 hl (by decide) rfl (fun ls hl => ?_)
      refine lv_iload hx hb dX10_share_79 (lv_at hl 1 rfl) ?_
      refine lv_iconst (v := 1) hx hb dX10_share_81 (by decide) ?_
      refine lv_iload_n hx hb dX10_share_82 rfl (lv_at hl 4 rfl) ?_
      refine lv_ishl hx hb dX10_share_83 ?_
      refine lv_iconst (v := 1) hx hb dX10_share_84 (by decide) ?_
      refine lv_isub hx hb dX10_share_85 ?_
      refine lv_iand hx hb dX10_share_86 ?_
      obtain ⟨q_4, hq_4, h⟩ := ob2 h
      refine kSI (As := [.int (q_2 &&& ((shl 1 p2) - 1))]) (rest := []) C0 (kt_X10_bits l G  (q_2 &&& ((shl 1 p2) - 1)) hq_4) gi_S_X10_244_X10_bits (n := 1) rfl (by decide +kernel) ⟨rfl, rfl, Nat.le_of_ble_eq_true rfl, Nat.le_of_ble_eq_true rfl⟩ hPD hS [] [0, 1, 2, 3, 4, 5, 6, 7, 8, 9, 10, 11, 12, 13, 14, 15, 16, 17, 18, 19, 20, 21, 22, 23, 24, 25, 26, 27, 28, 29, 30, 31, 32, 33] [0, 1, 2, 3, 4, 5, 6, 7, 8, 9, 10, 11, 12, 13, 14, 15, 16, 17, 18, 19, 20, 21, 22, 23, 24, 25, 26, 27, 28, 29, 30, 31, 32, 33] (wN := (wX10 G h0 a0 f0 A0)) rfl rfl rfl rfl rfl hl.1 (Nat.le_of_ble_eq_true rfl) dX10_share_87 (fun H locs hPD hS => ?_)
      refine lv_istore (lv' := [(7, .int q_4), (6, .int q_3), (5, .int q_2), (0, .ref h0), (1, .int p1), (2, .int p2), (3, .int l3), (4, .int l4)]) hx hb dX10_share_90 hl (by decide) rfl (fun ls hl => ?_)
      refine lv_iload_n hx hb dX10_share_92 rfl (lv_at hl 6 rfl) ?_
      refine lv_aload_n hx hb dX10_share_93 rfl (lv_at hl 3 rfl) ?_
      refine lv_iconst (v := 2) hx hb dX10_share_94 (by decide) ?_
      refine lv_iload hx hb dX10_share_95 (lv_at hl 7 rfl) ?_
      refine lv_imul hx hb dX10_share_97 ?_
      obtain ⟨q_5, hq_5, h⟩ := ob2 h
      refine kVI (As := [.int (2 * l4)]) (rest := [.int l3]) C0 (kt_X10_octet l G h0 a0 f0 A0 (2 * l4) hq_5) gi_V_X10_360_X10_octet (n := 1) rfl (by decide +kernel) rfl ⟨rfl, rfl, Nat.le_of_ble_eq_true rfl, Nat.le_of_ble_eq_true rfl⟩ hPD hS 0 10 rfl rfl rfl [0, 1, 2, 3, 4, 5, 6, 7, 8, 9, 10, 11, 12, 13, 14, 15, 16, 17, 18, 19, 20, 21, 22, 23, 24, 25, 26, 27, 28, 29, 30, 31, 32, 33] [] [0, 1, 2, 3, 4, 5, 6, 7, 8, 9, 10, 11, 12, 13, 14, 15, 16, 17, 18, 19, 20, 21, 22, 23, 24, 25, 26, 27, 28, 29, 30, 31, 32, 33] (wN := (wX10 G h0 a0 f0 A0)) rfl rfl rfl rfl rfl hl.1 (Nat.le_of_ble_eq_true rfl) dX10_share_98 (fun H locs hPD hS => ?_)
      refine lv_iload hx hb dX10_share_101 (lv_at hl 1 rfl) ?_
      obtain ⟨hz, h⟩ := ob h
      refine lv_idiv hx hb dX10_share_103 hz ?_
      refine lv_iadd hx hb dX10_share_104 ?_
      refine lv_iload hx hb dX10_share_105 (lv_at hl 0 rfl) ?_
      refine lv_aload_n hx hb dX10_share_107 rfl (lv_at hl 3 rfl) ?_
      refine lv_iconst (v := 2) hx hb dX10_share_108 (by decide) ?_
      refine lv_iload hx hb dX10_share_109 (lv_at hl 7 rfl) ?_
      refine lv_imul hx hb dX10_share_111 ?_
      obtain ⟨q_6, hq_6, h⟩ := ob2 h
      refine kVI (As := [.int (2 * l4)]) (rest := [.int q_4, .int (l3 + (q_5 / q_3))]) C0 (kt_X10_octet l G h0 a0 f0 A0 (2 * l4) hq_6) gi_V_X10_360_X10_octet (n := 1) rfl (by decide +kernel) rfl ⟨rfl, rfl, Nat.le_of_ble_eq_true rfl, Nat.le_of_ble_eq_true rfl⟩ hPD hS 0 10 rfl rfl rfl [0, 1, 2, 3, 4, 5, 6, 7, 8, 9, 10, 11, 12, 13, 14, 15, 16, 17, 18, 19, 20, 21, 22, 23, 24, 25, 26, 27, 28, 29, 30, 31, 32, 33] [] [0, 1, 2, 3, 4, 5, 6, 7, 8, 9, 10, 11, 12, 13, 14, 15, 16, 17, 18, 19, 20, 21, 22, 23, 24, 25, 26, 27, 28, 29, 30, 31, 32, 33] (wN := (wX10 G h0 a0 f0 A0)) rfl rfl rfl rfl rfl hl.1 (Nat.le_of_ble_eq_true rfl) dX10_share_112 (fun H locs hPD hS => ?_)
      refine lv_iload hx hb dX10_share_115 (lv_at hl 1 rfl) ?_
      obtain ⟨hz, h⟩ := ob h
      refine lv_irem hx hb dX10_share_117 hz ?_
      refine lv_icmp_ge (tgt := 125) hx hb dX10_share_118 (by decide) (fun cc1 => ?_) (fun cc1 => ?_)
      · have h := (if_pos cc1).symm.trans h
        refine lv_iconst (v := 0) hx hb dX10_share_125 (by decide) ?_
        refine lv_iadd hx hb dX10_share_126 ?_
        refine lv_istore_n (lv' := [(3, .int ((l3 + (q_5 / q_3)) + 0)), (7, .int q_4), (6, .int q_3), (5, .int q_2), (0, .ref h0), (1, .int p1), (2, .int p2), (4, .int l4)]) hx hb dX10_share_127 rfl hl (by decide) rfl (fun ls hl => ?_)
        refine lv_iinc (v := l4 + 1) (lv' := [(4, .int (l4 + 1)), (3, .int ((l3 + (q_5 / q_3)) + 0)), (7, .int q_4), (6, .int q_3), (5, .int q_2), (0, .ref h0), (1, .int p1), (2, .int p2)]) hx hb dX10_share_128 hl (k := 7) rfl rfl (by decide) rfl (fun ls hl => ?_)
        refine lv_goto (tgt := 42) hx hb dX10_share_131 (by decide) ?_
        exact hk42 f0 ((l3 + (q_5 / q_3)) + 0) (l4 + 1) h _ _ _ hPD hS (lv_sub hl [5, 6, 7, 1, 0] rfl)
      · have h := (if_neg cc1).symm.trans h
        refine lv_iconst (v := 1) hx hb dX10_share_121 (by decide) ?_
        refine lv_goto (tgt := 126) hx hb dX10_share_122 (by decide) ?_
        refine lv_iadd hx hb dX10_share_126 ?_
        refine lv_istore_n (lv' := [(3, .int ((l3 + (q_5 / q_3)) + 1)), (7, .int q_4), (6, .int q_3), (5, .int q_2), (0, .ref h0), (1, .int p1), (2, .int p2), (4, .int l4)]) hx hb dX10_share_127 rfl hl (by decide) rfl (fun ls hl => ?_)
        refine lv_iinc (v := l4 + 1) (lv' := [(4, .int (l4 + 1)), (3, .int ((l3 + (q_5 / q_3)) + 1)), (7, .int q_4), (6, .int q_3), (5, .int q_2), (0, .ref h0), (1, .int p1), (2, .int p2)]) hx hb dX10_share_128 hl (k := 7) rfl rfl (by decide) rfl (fun ls hl => ?_)
        refine lv_goto (tgt := 42) hx hb dX10_share_131 (by decide) ?_
        exact hk42 f0 ((l3 + (q_5 / q_3)) + 1) (l4 + 1) h _ _ _ hPD hS (lv_sub hl [5, 6, 7, 1, 0] rfl)
    · have h := (if_pos cc1).symm.trans h
      refine lv_goto (tgt := 128) hx hb dX10_share_69 (by decide) ?_
      refine lv_iinc (v := l4 + 1) (lv' := [(4, .int (l4 + 1)), (5, .int q_2), (0, .ref h0), (1, .int p1), (2, .int p2), (3, .int l3)]) hx hb dX10_share_128 hl (k := 5) rfl rfl (by decide) rfl (fun ls hl => ?_)
      refine lv_goto (tgt := 42) hx hb dX10_share_131 (by decide) ?_
      exact hk42 f0 l3 (l4 + 1) h _ _ _ hPD hS (lv_sub hl [2, 3, 4, 5, 0] rfl)
set_option maxRecDepth 100000 in
set_option maxHeartbeats 4000000 in
theorem ww_f10_share_l42  (C0 : Cx cX10_share 8 (some .int) RX10 p s m args meth c G DA) {h0 : Nat} {a0 : Nat → Nat} {A0 : Nat → Nat → Int32} {p1 : Int32} {p2 : Int32}   {res : Int32 × (Nat → Int32)}  : ∀ (n : Nat) (f0 : Nat → Int32) (l3 : Int32) (l4 : Int32), f10_share_l42 A0 p1 p2  n f0 l3 l4 = some res → ∀ (H : Heap) (locs : List Loc) (ls : Array Slot), WD G DA (wX10 G h0 a0 f0 A0) H → va_S DA s.heap H locs → lv_has ls 8 [(0, .ref h0), (1, .int p1), (2, .int p2), (3, .int l3), (4, .int l4)] → W p l e rmX10_share s m args below meth c H locs 0 0 (MQ below (QI G DA res.1 (wX10 G h0 a0 res.2 A0)) args s 0 0 DA) (F0 m 42 ls []) := by
  intro n
  induction n with
  | zero => intro f0 l3 l4 h; cases h
  | succ n ih => intro f0 l3 l4 h; exact ww_f10_share_b42 C0  ih f0 l3 l4 h
set_option maxRecDepth 100000 in
set_option maxHeartbeats 4000000 in
theorem kt_X10_share (l : Launch) (G : Gp) (h0 : Nat) (a0 : Nat → Nat) (f0 : Nat → Int32) (A0 : Nat → Nat → Int32) (p1 : Int32) (p2 : Int32) : ∀ {r : Int32 × (Nat → Int32)}, f10_share f0 A0 p1 p2 = some r → CtrI l yX10_share cX10_share 8 (some .int) rmX10_share G [.ref h0, .int p1, .int p2] (wX10 G h0 a0 f0 A0) r.1 (wX10 G h0 a0 r.2 A0) := by
  intro res h
  refine ctrI_of (cc := cX10_share) (maxL := 8) (ret := (some .int)) (by decide +kernel) rfl (Nat.le_of_ble_eq_true rfl) (fun p e s m below meth c DA C0 hP hD ls hl => ?_)
  have hPD : WD G DA (wX10 G h0 a0 f0 A0) s.heap := ⟨hP, hD⟩
  have hS : va_S DA s.heap s.heap [] := va_S.rf
  have hl : lv_has ls 8 [(0, .ref h0), (1, .int p1), (2, .int p2)] := hl
  obtain ⟨hx, hb, hml, hown, hts⟩ := C0.1
  have hK := C0.2.2.2.1
  unfold f10_share at h
  refine lv_iload_n hx hb dX10_share_0 rfl (lv_at hl 1 rfl) ?_
  refine lv_iconst (v := 1) hx hb dX10_share_1 (by decide) ?_
  refine lv_bipush (v := 12) hx hb dX10_share_2 (by decide) ?_
  refine kSI (As := [.int p1, .int 1, .int 12]) (rest := []) C0 (kt_X10_in l G  p1 1 12) gi_S_X10_112_X10_in (n := 3) rfl (by decide +kernel) ⟨rfl, rfl, Nat.le_of_ble_eq_true rfl, Nat.le_of_ble_eq_true rfl⟩ hPD hS [] [0, 1, 2, 3, 4, 5, 6, 7, 8, 9, 10, 11, 12, 13, 14, 15, 16, 17, 18, 19, 20, 21, 22, 23, 24, 25, 26, 27, 28, 29, 30, 31, 32, 33] [0, 1, 2, 3, 4, 5, 6, 7, 8, 9, 10, 11, 12, 13, 14, 15, 16, 17, 18, 19, 20, 21, 22, 23, 24, 25, 26, 27, 28, 29, 30, 31, 32, 33] (wN := (wX10 G h0 a0 f0 A0)) rfl rfl rfl rfl rfl hl.1 (Nat.le_of_ble_eq_true rfl) dX10_share_4 (fun H locs hPD hS => ?_)
  refine lv_if_eq (tgt := 30) hx hb dX10_share_7 (by decide) (fun cc1 => ?_) (fun cc1 => ?_)
  · have h := (if_pos cc1).symm.trans h
    refine lv_iconst (v := (-1)) hx hb dX10_share_30 (by decide) ?_
    obtain rfl := Option.some.inj h
    exact eI C0 hPD.1 hPD.2 hS rfl dX10_share_31
  · have h := (if_neg cc1).symm.trans h
    refine lv_iload_n hx hb dX10_share_10 rfl (lv_at hl 2 rfl) ?_
    refine lv_iconst (v := 0) hx hb dX10_share_11 (by decide) ?_
    refine lv_bipush (v := 7) hx hb dX10_share_12 (by decide) ?_
    refine kSI (As := [.int p2, .int 0, .int 7]) (rest := []) C0 (kt_X10_in l G  p2 0 7) gi_S_X10_112_X10_in (n := 3) rfl (by decide +kernel) ⟨rfl, rfl, Nat.le_of_ble_eq_true rfl, Nat.le_of_ble_eq_true rfl⟩ hPD hS [] [0, 1, 2, 3, 4, 5, 6, 7, 8, 9, 10, 11, 12, 13, 14, 15, 16, 17, 18, 19, 20, 21, 22, 23, 24, 25, 26, 27, 28, 29, 30, 31, 32, 33] [0, 1, 2, 3, 4, 5, 6, 7, 8, 9, 10, 11, 12, 13, 14, 15, 16, 17, 18, 19, 20, 21, 22, 23, 24, 25, 26, 27, 28, 29, 30, 31, 32, 33] (wN := (wX10 G h0 a0 f0 A0)) rfl rfl rfl rfl rfl hl.1 (Nat.le_of_ble_eq_true rfl) dX10_share_14 (fun H locs hPD hS => ?_)
    refine lv_if_eq (tgt := 30) hx hb dX10_share_17 (by decide) (fun cc1 => ?_) (fun cc1 => ?_)
    · have h := (if_pos cc1).symm.trans h
      refine lv_iconst (v := (-1)) hx hb dX10_share_30 (by decide) ?_
      obtain rfl := Option.some.inj h
      exact eI C0 hPD.1 hPD.2 hS rfl dX10_share_31
    · have h := (if_neg cc1).symm.trans h
      refine lv_iconst (v := 2) hx hb dX10_share_20 (by decide) ?_
      refine lv_iload_n hx hb dX10_share_21 rfl (lv_at hl 1 rfl) ?_
      refine lv_imul hx hb dX10_share_22 ?_
      refine lv_aload_n hx hb dX10_share_23 rfl (lv_at hl 0 rfl) ?_
      refine va_get (D := G.1) (ci := 10) (v := .int (f0 8)) (C := RX10) (T := TX10) (N := 52) hx hb hts inlX10 hown hK hPD.1 0 rfl rfl 8 (by decide) (hts _ gw_549) (fun _ h9 => h9) rfl dX10_share_24 ?_
      refine lv_icmp_le (tgt := 32) hx hb dX10_share_27 (by decide) (fun cc1 => ?_) (fun cc1 => ?_)
      · have h := (if_pos cc1).symm.trans h
        refine lv_aload_n hx hb dX10_share_32 rfl (lv_at hl 0 rfl) ?_
        refine lv_iconst (v := 0) hx hb dX10_share_33 (by decide) ?_
        refine va_put (D := G.1) (ci := 10) (v := .int 0) (ty := .int) (C := RX10) (T := TX10) (N := 52) hx hb hts inlX10 tyX10 tyX10_ok nmX10 hown hK hPD.1 hPD.2 hS 0 rfl rfl 8 (by decide) (hts _ gw_549) (fun _ h9 => h9) rfl (by decide +kernel) rfl rfl (Nat.le_of_ble_eq_true rfl) dX10_share_34 (fun H locs hP hD hS => ?_)
        obtain ⟨f0_1, ef0_1, h⟩ := lvl h
        have hPD : WD G DA (wX10 G h0 a0 f0_1 A0) H := by rw [ef0_1]; exact ⟨hP, hD⟩
        clear ef0_1 hP hD
        refine lv_iconst (v := 0) hx hb dX10_share_37 (by decide) ?_
        refine lv_istore_n (lv' := [(3, .int 0), (0, .ref h0), (1, .int p1), (2, .int p2)]) hx hb dX10_share_38 rfl hl (by decide) rfl (fun ls hl => ?_)
        refine lv_iconst (v := 0) hx hb dX10_share_39 (by decide) ?_
        refine lv_istore (lv' := [(4, .int 0), (3, .int 0), (0, .ref h0), (1, .int p1), (2, .int p2)]) hx hb dX10_share_40 hl (by decide) rfl (fun ls hl => ?_)
        exact ww_f10_share_l42 C0 NF f0_1 0 0 h _ _ _ hPD hS (lv_sub hl [2, 3, 4, 1, 0] rfl)
      · have h := (if_neg cc1).symm.trans h
        refine lv_iconst (v := (-1)) hx hb dX10_share_30 (by decide) ?_
        obtain rfl := Option.some.inj h
        exact eI C0 hPD.1 hPD.2 hS rfl dX10_share_31
abbrev rmX10_gcd : Room := { frames := 0, cells := 0, slots := 0, locals := 0 }
set_option maxRecDepth 100000 in
set_option maxHeartbeats 4000000 in
theorem ww_f10_gcd_b4  (C0 : Cx cX10_gcd 5 (some .int) RX10 p s m args meth c G DA) {p0 : Int32} {p1 : Int32}  {k4 : Int32 → Int32 → Option (Int32)} {res : Int32}  (hk4 : ∀ (l2 : Int32) (l3 : Int32), k4 l2 l3 = some res → ∀ (H : Heap) (locs : List Loc) (ls : Array Slot), WD G DA ([] : va_W) H → va_S DA s.heap H locs → lv_has ls 5 [(0, .int p0), (1, .int p1), (2, .int l2), (3, .int l3)] → W p l e rmX10_gcd s m args below meth c H locs 0 0 (MQ below (QI G DA res ([] : va_W)) args s 0 0 DA) (F0 m 4 ls [])) : ∀ (l2 : Int32) (l3 : Int32), f10_gcd_b4 p0 p1  k4 l2 l3 = some res → ∀ (H : Heap) (locs : List Loc) (ls : Array Slot), WD G DA ([] : va_W) H → va_S DA s.heap H locs → lv_has ls 5 [(0, .int p0), (1, .int p1), (2, .int l2), (3, .int l3)] → W p l e rmX10_gcd s m args below meth c H locs 0 0 (MQ below (QI G DA res ([] : va_W)) args s 0 0 DA) (F0 m 4 ls []) := by
  obtain ⟨hx, hb, hml, hown, hts⟩ := C0.1
  have hK := C0.2.2.2.1
  intro l2 l3 h _ _ _ hPD hS hl
  unfold f10_gcd_b4 at h
  refine lv_iload_n hx hb dX10_gcd_4 rfl (lv_at hl 3 rfl) ?_
  refine lv_if_eq (tgt := 21) hx hb dX10_gcd_5 (by decide) (fun cc1 => ?_) (fun cc1 => ?_)
  · have h := (if_pos cc1).symm.trans h
    refine lv_iload_n hx hb dX10_gcd_21 rfl (lv_at hl 2 rfl) ?_
    obtain rfl := Option.some.inj h
    exact eI C0 hPD.1 hPD.2 hS rfl dX10_gcd_22
  · have h := (if_neg cc1).symm.trans h
    refine lv_iload_n hx hb dX10_gcd_8 rfl (lv_at hl 2 rfl) ?_
    refine lv_iload_n hx hb dX10_gcd_9 rfl (lv_at hl 3 rfl) ?_
    obtain ⟨hz, h⟩ := ob h
    refine lv_irem hx hb dX10_gcd_10 hz ?_
    refine lv_istore (lv' := [(4, .int (irm l2 l3)), (0, .int p0), (1, .int p1), (2, .int l2), (3, .int l3)]) hx hb dX10_gcd_11 hl (by decide) rfl (fun ls hl => ?_)
    refine lv_iload_n hx hb dX10_gcd_13 rfl (lv_at hl 4 rfl) ?_
    refine lv_istore_n (lv' := [(2, .int l3), (4, .int (irm l2 l3)), (0, .int p0), (1, .int p1), (3, .int l3)]) hx hb dX10_gcd_14 rfl hl (by decide) rfl (fun ls hl => ?_)
    refine lv_iload hx hb dX10_gcd_15 (lv_at hl 1 rfl) ?_
    refine lv_istore_n (lv' := [(3, .int (irm l2 l3)), (2, .int l3), (4, .int (irm l2 l3)), (0, .int p0), (1, .int p1)]) hx hb dX10_gcd_17 rfl hl (by decide) rfl (fun ls hl => ?_)
    refine lv_goto (tgt := 4) hx hb dX10_gcd_18 (by decide) ?_
    exact hk4 l3 (irm l2 l3) h _ _ _ hPD hS (lv_sub hl [3, 4, 1, 0] rfl)
set_option maxRecDepth 100000 in
set_option maxHeartbeats 4000000 in
theorem ww_f10_gcd_l4  (C0 : Cx cX10_gcd 5 (some .int) RX10 p s m args meth c G DA) {p0 : Int32} {p1 : Int32}   {res : Int32}  : ∀ (n : Nat) (l2 : Int32) (l3 : Int32), f10_gcd_l4 p0 p1  n l2 l3 = some res → ∀ (H : Heap) (locs : List Loc) (ls : Array Slot), WD G DA ([] : va_W) H → va_S DA s.heap H locs → lv_has ls 5 [(0, .int p0), (1, .int p1), (2, .int l2), (3, .int l3)] → W p l e rmX10_gcd s m args below meth c H locs 0 0 (MQ below (QI G DA res ([] : va_W)) args s 0 0 DA) (F0 m 4 ls []) := by
  intro n
  induction n with
  | zero => intro l2 l3 h; cases h
  | succ n ih => intro l2 l3 h; exact ww_f10_gcd_b4 C0  ih l2 l3 h
set_option maxRecDepth 100000 in
set_option maxHeartbeats 4000000 in
theorem kt_X10_gcd (l : Launch) (G : Gp) (p0 : Int32) (p1 : Int32) : ∀ {r : Int32}, f10_gcd p0 p1 = some r → CtrI l yX10_gcd cX10_gcd 5 (some .int) rmX10_gcd G [.int p0, .int p1] ([] : va_W) r ([] : va_W) := by
  intro res h
  refine ctrI_of (cc := cX10_gcd) (maxL := 5) (ret := (some .int)) (by decide +kernel) rfl (Nat.le_of_ble_eq_true rfl) (fun p e s m below meth c DA C0 hP hD ls hl => ?_)
  have hPD : WD G DA ([] : va_W) s.heap := ⟨hP, hD⟩
  have hS : va_S DA s.heap s.heap [] := va_S.rf
  have hl : lv_has ls 5 [(0, .int p0), (1, .int p1)] := hl
  obtain ⟨hx, hb, hml, hown, hts⟩ := C0.1
  have hK := C0.2.2.2.1
  unfold f10_gcd at h
  refine lv_iload_n hx hb dX10_gcd_0 rfl (lv_at hl 0 rfl) ?_
  refine lv_istore_n (lv' := [(2, .int p0), (0, .int p0), (1, .int p1)]) hx hb dX10_gcd_1 rfl hl (by decide) rfl (fun ls hl => ?_)
  refine lv_iload_n hx hb dX10_gcd_2 rfl (lv_at hl 2 rfl) ?_
  refine lv_istore_n (lv' := [(3, .int p1), (2, .int p0), (0, .int p0), (1, .int p1)]) hx hb dX10_gcd_3 rfl hl (by decide) rfl (fun ls hl => ?_)
  exact ww_f10_gcd_l4 C0 NF p0 p1 h _ _ _ hPD hS (lv_sub hl [2, 3, 1, 0] rfl)
abbrev rmX10_odds : Room := { frames := 1, cells := 0, slots := 0, locals := 24 }
set_option maxRecDepth 100000 in
set_option maxHeartbeats 4000000 in
theorem ww_f10_odds_b125  (C0 : Cx cX10_odds 8 (some .int) RX10 p s m args meth c G DA) {h0 : Nat} {a0 : Nat → Nat} {A0 : Nat → Nat → Int32} {p1 : Int32} {p2 : Int32}   {res : Int32 × (Nat → Int32)}  : ∀ (f0 : Nat → Int32) (l3 : Int32) (s0 : Int32), f10_odds_b125 A0 p1 p2  f0 l3 s0 = some res → ∀ (H : Heap) (locs : List Loc) (ls : Array Slot), WD G DA (wX10 G h0 a0 f0 A0) H → va_S DA s.heap H locs → lv_has ls 8 [(0, .ref h0), (1, .int p1), (2, .int p2), (3, .int l3)] → W p l e rmX10_odds s m args below meth c H locs 0 0 (MQ below (QI G DA res.1 (wX10 G h0 a0 res.2 A0)) args s 0 0 DA) (F0 m 125 ls [.int s0]) := by
  obtain ⟨hx, hb, hml, hown, hts⟩ := C0.1
  have hK := C0.2.2.2.1
  intro f0 l3 s0 h _ _ _ hPD hS hl
  unfold f10_odds_b125 at h
  refine lv_istore (lv' := [(6, .int s0), (0, .ref h0), (1, .int p1), (2, .int p2), (3, .int l3)]) hx hb dX10_odds_125 hl (by decide) rfl (fun ls hl => ?_)
  refine lv_iload_n hx hb dX10_odds_127 rfl (lv_at hl 4 rfl) ?_
  refine lv_iload hx hb dX10_odds_128 (lv_at hl 0 rfl) ?_
  obtain ⟨q_2, hq_2, h⟩ := ob2 h
  refine kSI (As := [.int l3, .int s0]) (rest := []) C0 (kt_X10_gcd l G  l3 s0 hq_2) gi_S_X10_381_X10_gcd (n := 2) rfl (by decide +kernel) ⟨rfl, rfl, Nat.le_of_ble_eq_true rfl, Nat.le_of_ble_eq_true rfl⟩ hPD hS [] [0, 1, 2, 3, 4, 5, 6, 7, 8, 9, 10, 11, 12, 13, 14, 15, 16, 17, 18, 19, 20, 21, 22, 23, 24, 25, 26, 27, 28, 29, 30, 31, 32, 33] [0, 1, 2, 3, 4, 5, 6, 7, 8, 9, 10, 11, 12, 13, 14, 15, 16, 17, 18, 19, 20, 21, 22, 23, 24, 25, 26, 27, 28, 29, 30, 31, 32, 33] (wN := (wX10 G h0 a0 f0 A0)) rfl rfl rfl rfl rfl hl.1 (Nat.le_of_ble_eq_true rfl) dX10_odds_130 (fun H locs hPD hS => ?_)
  refine lv_istore (lv' := [(7, .int q_2), (6, .int s0), (0, .ref h0), (1, .int p1), (2, .int p2), (3, .int l3)]) hx hb dX10_odds_133 hl (by decide) rfl (fun ls hl => ?_)
  refine lv_iload_n hx hb dX10_odds_135 rfl (lv_at hl 4 rfl) ?_
  refine lv_iconst (v := 2) hx hb dX10_odds_136 (by decide) ?_
  refine lv_irem hx hb dX10_odds_137 (by decide) ?_
  refine lv_if_ne (tgt := 149) hx hb dX10_odds_138 (by decide) (fun cc1 => ?_) (fun cc1 => ?_)
  · have h := (if_neg cc1).symm.trans h
    refine lv_iload_n hx hb dX10_odds_149 rfl (lv_at hl 5 rfl) ?_
    refine lv_iload hx hb dX10_odds_150 (lv_at hl 0 rfl) ?_
    obtain ⟨hz, h⟩ := ob h
    refine lv_idiv hx hb dX10_odds_152 hz ?_
    obtain rfl := Option.some.inj h
    exact eI C0 hPD.1 hPD.2 hS rfl dX10_odds_153
  · have h := (if_pos cc1).symm.trans h
    refine lv_iload hx hb dX10_odds_141 (lv_at hl 1 rfl) ?_
    refine lv_iload hx hb dX10_odds_143 (lv_at hl 0 rfl) ?_
    obtain ⟨hz, h⟩ := ob h
    refine lv_idiv hx hb dX10_odds_145 hz ?_
    refine lv_goto (tgt := 153) hx hb dX10_odds_146 (by decide) ?_
    obtain rfl := Option.some.inj h
    exact eI C0 hPD.1 hPD.2 hS rfl dX10_odds_153
set_option maxRecDepth 100000 in
set_option maxHeartbeats 4000000 in
theorem ww_f10_odds_b45  (C0 : Cx cX10_odds 8 (some .int) RX10 p s m args meth c G DA) {h0 : Nat} {a0 : Nat → Nat} {A0 : Nat → Nat → Int32} {p1 : Int32} {p2 : Int32}  {k45 : (Nat → Int32) → Int32 → Int32 → Int32 → Int32 → Option (Int32 × (Nat → Int32))} {res : Int32 × (Nat → Int32)}  (hk45 : ∀ (f0 : Nat → Int32) (l3 : Int32) (l4 : Int32) (l5 : Int32) (l6 : Int32), k45 f0 l3 l4 l5 l6 = some res → ∀ (H : Heap) (locs : List Loc) (ls : Array Slot), WD G DA (wX10 G h0 a0 f0 A0) H → va_S DA s.heap H locs → lv_has ls 8 [(0, .ref h0), (1, .int p1), (2, .int p2), (3, .int l3), (4, .int l4), (5, .int l5), (6, .int l6)] → W p l e rmX10_odds s m args below meth c H locs 0 0 (MQ below (QI G DA res.1 (wX10 G h0 a0 res.2 A0)) args s 0 0 DA) (F0 m 45 ls [])) : ∀ (f0 : Nat → Int32) (l3 : Int32) (l4 : Int32) (l5 : Int32) (l6 : Int32), f10_odds_b45 A0 p1 p2  k45 f0 l3 l4 l5 l6 = some res → ∀ (H : Heap) (locs : List Loc) (ls : Array Slot), WD G DA (wX10 G h0 a0 f0 A0) H → va_S DA s.heap H locs → lv_has ls 8 [(0, .ref h0), (1, .int p1), (2, .int p2), (3, .int l3), (4, .int l4), (5, .int l5), (6, .int l6)] → W p l e rmX10_odds s m args below meth c H locs 0 0 (MQ below (QI G DA res.1 (wX10 G h0 a0 res.2 A0)) args s 0 0 DA) (F0 m 45 ls []) := by
  obtain ⟨hx, hb, hml, hown, hts⟩ := C0.1
  have hK := C0.2.2.2.1
  intro f0 l3 l4 l5 l6 h _ _ _ hPD hS hl
  unfold f10_odds_b45 at h
  refine lv_iload hx hb dX10_odds_45 (lv_at hl 6 rfl) ?_
  refine lv_iload_n hx hb dX10_odds_47 rfl (lv_at hl 1 rfl) ?_
  refine lv_icmp_ge (tgt := 101) hx hb dX10_odds_48 (by decide) (fun cc1 => ?_) (fun cc1 => ?_)
  · have h := (if_pos cc1).symm.trans h
    refine lv_iload_n hx hb dX10_odds_101 rfl (lv_at hl 2 rfl) ?_
    refine lv_iconst (v := 2) hx hb dX10_odds_102 (by decide) ?_
    refine lv_icmp_ge (tgt := 111) hx hb dX10_odds_103 (by decide) (fun cc1 => ?_) (fun cc1 => ?_)
    · have h := (if_pos cc1).symm.trans h
      refine lv_iload_n hx hb dX10_odds_111 rfl (lv_at hl 2 rfl) ?_
      refine lv_iconst (v := 4) hx hb dX10_odds_112 (by decide) ?_
      refine lv_icmp_ge (tgt := 121) hx hb dX10_odds_113 (by decide) (fun cc1 => ?_) (fun cc1 => ?_)
      · have h := (if_pos cc1).symm.trans h
        refine lv_iload_n hx hb dX10_odds_121 rfl (lv_at hl 3 rfl) ?_
        refine lv_iload hx hb dX10_odds_122 (lv_at hl 5 rfl) ?_
        refine lv_isub hx hb dX10_odds_124 ?_
        exact ww_f10_odds_b125 C0 f0 l3 (l3 - l5) h _ _ _ hPD hS (lv_sub hl [0, 1, 2, 3] rfl)
      · have h := (if_neg cc1).symm.trans h
        refine lv_iload hx hb dX10_odds_116 (lv_at hl 5 rfl) ?_
        refine lv_goto (tgt := 125) hx hb dX10_odds_118 (by decide) ?_
        exact ww_f10_odds_b125 C0 f0 l3 l5 h _ _ _ hPD hS (lv_sub hl [0, 1, 2, 3] rfl)
    · have h := (if_neg cc1).symm.trans h
      refine lv_iload hx hb dX10_odds_106 (lv_at hl 4 rfl) ?_
      refine lv_goto (tgt := 125) hx hb dX10_odds_108 (by decide) ?_
      exact ww_f10_odds_b125 C0 f0 l3 l4 h _ _ _ hPD hS (lv_sub hl [0, 1, 2, 3] rfl)
  · have h := (if_neg cc1).symm.trans h
    refine lv_aload_n hx hb dX10_odds_51 rfl (lv_at hl 0 rfl) ?_
    refine lv_iload hx hb dX10_odds_52 (lv_at hl 6 rfl) ?_
    obtain ⟨q_3, hq_3, h⟩ := ob2 h
    refine kVI (As := [.int l6]) (rest := []) C0 (kt_X10_octet l G h0 a0 f0 A0 l6 hq_3) gi_V_X10_360_X10_octet (n := 1) rfl (by decide +kernel) rfl ⟨rfl, rfl, Nat.le_of_ble_eq_true rfl, Nat.le_of_ble_eq_true rfl⟩ hPD hS 0 10 rfl rfl rfl [0, 1, 2, 3, 4, 5, 6, 7, 8, 9, 10, 11, 12, 13, 14, 15, 16, 17, 18, 19, 20, 21, 22, 23, 24, 25, 26, 27, 28, 29, 30, 31, 32, 33] [] [0, 1, 2, 3, 4, 5, 6, 7, 8, 9, 10, 11, 12, 13, 14, 15, 16, 17, 18, 19, 20, 21, 22, 23, 24, 25, 26, 27, 28, 29, 30, 31, 32, 33] (wN := (wX10 G h0 a0 f0 A0)) rfl rfl rfl rfl rfl hl.1 (Nat.le_of_ble_eq_true rfl) dX10_odds_54 (fun H locs hPD hS => ?_)
    refine lv_bipush (v := 10) hx hb dX10_odds_57 (by decide) ?_
    refine lv_icmp_le (tgt := 65) hx hb dX10_odds_59 (by decide) (fun cc1 => ?_) (fun cc1 => ?_)
    · have h := (if_pos cc1).symm.trans h
      refine lv_iload_n hx hb dX10_odds_65 rfl (lv_at hl 3 rfl) ?_
      refine lv_bipush (v := 10) hx hb dX10_odds_66 (by decide) ?_
      refine lv_imul hx hb dX10_odds_68 ?_
      refine lv_istore_n (lv' := [(3, .int (l3 * 10)), (0, .ref h0), (1, .int p1), (2, .int p2), (4, .int l4), (5, .int l5), (6, .int l6)]) hx hb dX10_odds_69 rfl hl (by decide) rfl (fun ls hl => ?_)
      refine lv_iload hx hb dX10_odds_70 (lv_at hl 4 rfl) ?_
      refine lv_aload_n hx hb dX10_odds_72 rfl (lv_at hl 1 rfl) ?_
      refine lv_iload hx hb dX10_odds_73 (lv_at hl 6 rfl) ?_
      obtain ⟨q_4, hq_4, h⟩ := ob2 h
      refine kVI (As := [.int l6]) (rest := [.int l4]) C0 (kt_X10_octet l G h0 a0 f0 A0 l6 hq_4) gi_V_X10_360_X10_octet (n := 1) rfl (by decide +kernel) rfl ⟨rfl, rfl, Nat.le_of_ble_eq_true rfl, Nat.le_of_ble_eq_true rfl⟩ hPD hS 0 10 rfl rfl rfl [0, 1, 2, 3, 4, 5, 6, 7, 8, 9, 10, 11, 12, 13, 14, 15, 16, 17, 18, 19, 20, 21, 22, 23, 24, 25, 26, 27, 28, 29, 30, 31, 32, 33] [] [0, 1, 2, 3, 4, 5, 6, 7, 8, 9, 10, 11, 12, 13, 14, 15, 16, 17, 18, 19, 20, 21, 22, 23, 24, 25, 26, 27, 28, 29, 30, 31, 32, 33] (wN := (wX10 G h0 a0 f0 A0)) rfl rfl rfl rfl rfl hl.1 (Nat.le_of_ble_eq_true rfl) dX10_odds_75 (fun H locs hPD hS => ?_)
      refine lv_imul hx hb dX10_odds_78 ?_
      refine lv_istore (lv' := [(4, .int (l4 * q_4)), (3, .int (l3 * 10)), (0, .ref h0), (1, .int p1), (2, .int p2), (5, .int l5), (6, .int l6)]) hx hb dX10_odds_79 hl (by decide) rfl (fun ls hl => ?_)
      refine lv_iload hx hb dX10_odds_81 (lv_at hl 5 rfl) ?_
      refine lv_bipush (v := 10) hx hb dX10_odds_83 (by decide) ?_
      refine lv_aload_n hx hb dX10_odds_85 rfl (lv_at hl 2 rfl) ?_
      refine lv_iload hx hb dX10_odds_86 (lv_at hl 6 rfl) ?_
      obtain ⟨q_5, hq_5, h⟩ := ob2 h
      refine kVI (As := [.int l6]) (rest := [.int 10, .int l5]) C0 (kt_X10_octet l G h0 a0 f0 A0 l6 hq_5) gi_V_X10_360_X10_octet (n := 1) rfl (by decide +kernel) rfl ⟨rfl, rfl, Nat.le_of_ble_eq_true rfl, Nat.le_of_ble_eq_true rfl⟩ hPD hS 0 10 rfl rfl rfl [0, 1, 2, 3, 4, 5, 6, 7, 8, 9, 10, 11, 12, 13, 14, 15, 16, 17, 18, 19, 20, 21, 22, 23, 24, 25, 26, 27, 28, 29, 30, 31, 32, 33] [] [0, 1, 2, 3, 4, 5, 6, 7, 8, 9, 10, 11, 12, 13, 14, 15, 16, 17, 18, 19, 20, 21, 22, 23, 24, 25, 26, 27, 28, 29, 30, 31, 32, 33] (wN := (wX10 G h0 a0 f0 A0)) rfl rfl rfl rfl rfl hl.1 (Nat.le_of_ble_eq_true rfl) dX10_odds_88 (fun H locs hPD hS => ?_)
      refine lv_isub hx hb dX10_odds_91 ?_
      refine lv_imul hx hb dX10_odds_92 ?_
      refine lv_istore (lv' := [(5, .int (l5 * (10 - q_5))), (4, .int (l4 * q_4)), (3, .int (l3 * 10)), (0, .ref h0), (1, .int p1), (2, .int p2), (6, .int l6)]) hx hb dX10_odds_93 hl (by decide) rfl (fun ls hl => ?_)
      refine lv_iinc (v := l6 + 1) (lv' := [(6, .int (l6 + 1)), (5, .int (l5 * (10 - q_5))), (4, .int (l4 * q_4)), (3, .int (l3 * 10)), (0, .ref h0), (1, .int p1), (2, .int p2)]) hx hb dX10_odds_95 hl (k := 6) rfl rfl (by decide) rfl (fun ls hl => ?_)
      refine lv_goto (tgt := 45) hx hb dX10_odds_98 (by decide) ?_
      exact hk45 f0 (l3 * 10) (l4 * q_4) (l5 * (10 - q_5)) (l6 + 1) h _ _ _ hPD hS (lv_sub hl [4, 5, 6, 3, 2, 1, 0] rfl)
    · have h := (if_neg cc1).symm.trans h
      refine lv_bipush (v := (-2)) hx hb dX10_odds_62 (by decide) ?_
      obtain rfl := Option.some.inj h
      exact eI C0 hPD.1 hPD.2 hS rfl dX10_odds_64
set_option maxRecDepth 100000 in
set_option maxHeartbeats 4000000 in
theorem ww_f10_odds_l45  (C0 : Cx cX10_odds 8 (some .int) RX10 p s m args meth c G DA) {h0 : Nat} {a0 : Nat → Nat} {A0 : Nat → Nat → Int32} {p1 : Int32} {p2 : Int32}   {res : Int32 × (Nat → Int32)}  : ∀ (n : Nat) (f0 : Nat → Int32) (l3 : Int32) (l4 : Int32) (l5 : Int32) (l6 : Int32), f10_odds_l45 A0 p1 p2  n f0 l3 l4 l5 l6 = some res → ∀ (H : Heap) (locs : List Loc) (ls : Array Slot), WD G DA (wX10 G h0 a0 f0 A0) H → va_S DA s.heap H locs → lv_has ls 8 [(0, .ref h0), (1, .int p1), (2, .int p2), (3, .int l3), (4, .int l4), (5, .int l5), (6, .int l6)] → W p l e rmX10_odds s m args below meth c H locs 0 0 (MQ below (QI G DA res.1 (wX10 G h0 a0 res.2 A0)) args s 0 0 DA) (F0 m 45 ls []) := by
  intro n
  induction n with
  | zero => intro f0 l3 l4 l5 l6 h; cases h
  | succ n ih => intro f0 l3 l4 l5 l6 h; exact ww_f10_odds_b45 C0  ih f0 l3 l4 l5 l6 h
set_option maxRecDepth 100000 in
set_option maxHeartbeats 4000000 in
theorem kt_X10_odds (l : Launch) (G : Gp) (h0 : Nat) (a0 : Nat → Nat) (f0 : Nat → Int32) (A0 : Nat → Nat → Int32) (p1 : Int32) (p2 : Int32) : ∀ {r : Int32 × (Nat → Int32)}, f10_odds f0 A0 p1 p2 = some r → CtrI l yX10_odds cX10_odds 8 (some .int) rmX10_odds G [.ref h0, .int p1, .int p2] (wX10 G h0 a0 f0 A0) r.1 (wX10 G h0 a0 r.2 A0) := by
  intro res h
  refine ctrI_of (cc := cX10_odds) (maxL := 8) (ret := (some .int)) (by decide +kernel) rfl (Nat.le_of_ble_eq_true rfl) (fun p e s m below meth c DA C0 hP hD ls hl => ?_)
  have hPD : WD G DA (wX10 G h0 a0 f0 A0) s.heap := ⟨hP, hD⟩
  have hS : va_S DA s.heap s.heap [] := va_S.rf
  have hl : lv_has ls 8 [(0, .ref h0), (1, .int p1), (2, .int p2)] := hl
  obtain ⟨hx, hb, hml, hown, hts⟩ := C0.1
  have hK := C0.2.2.2.1
  unfold f10_odds at h
  refine lv_iload_n hx hb dX10_odds_0 rfl (lv_at hl 1 rfl) ?_
  refine lv_iconst (v := 1) hx hb dX10_odds_1 (by decide) ?_
  refine lv_bipush (v := 9) hx hb dX10_odds_2 (by decide) ?_
  refine kSI (As := [.int p1, .int 1, .int 9]) (rest := []) C0 (kt_X10_in l G  p1 1 9) gi_S_X10_112_X10_in (n := 3) rfl (by decide +kernel) ⟨rfl, rfl, Nat.le_of_ble_eq_true rfl, Nat.le_of_ble_eq_true rfl⟩ hPD hS [] [0, 1, 2, 3, 4, 5, 6, 7, 8, 9, 10, 11, 12, 13, 14, 15, 16, 17, 18, 19, 20, 21, 22, 23, 24, 25, 26, 27, 28, 29, 30, 31, 32, 33] [0, 1, 2, 3, 4, 5, 6, 7, 8, 9, 10, 11, 12, 13, 14, 15, 16, 17, 18, 19, 20, 21, 22, 23, 24, 25, 26, 27, 28, 29, 30, 31, 32, 33] (wN := (wX10 G h0 a0 f0 A0)) rfl rfl rfl rfl rfl hl.1 (Nat.le_of_ble_eq_true rfl) dX10_odds_4 (fun H locs hPD hS => ?_)
  refine lv_if_eq (tgt := 27) hx hb dX10_odds_7 (by decide) (fun cc1 => ?_) (fun cc1 => ?_)
  · have h := (if_pos cc1).symm.trans h
    refine lv_iconst (v := (-1)) hx hb dX10_odds_27 (by decide) ?_
    obtain rfl := Option.some.inj h
    exact eI C0 hPD.1 hPD.2 hS rfl dX10_odds_28
  · have h := (if_neg cc1).symm.trans h
    refine lv_iload_n hx hb dX10_odds_10 rfl (lv_at hl 2 rfl) ?_
    refine lv_iconst (v := 0) hx hb dX10_odds_11 (by decide) ?_
    refine lv_iconst (v := 5) hx hb dX10_odds_12 (by decide) ?_
    refine kSI (As := [.int p2, .int 0, .int 5]) (rest := []) C0 (kt_X10_in l G  p2 0 5) gi_S_X10_112_X10_in (n := 3) rfl (by decide +kernel) ⟨rfl, rfl, Nat.le_of_ble_eq_true rfl, Nat.le_of_ble_eq_true rfl⟩ hPD hS [] [0, 1, 2, 3, 4, 5, 6, 7, 8, 9, 10, 11, 12, 13, 14, 15, 16, 17, 18, 19, 20, 21, 22, 23, 24, 25, 26, 27, 28, 29, 30, 31, 32, 33] [0, 1, 2, 3, 4, 5, 6, 7, 8, 9, 10, 11, 12, 13, 14, 15, 16, 17, 18, 19, 20, 21, 22, 23, 24, 25, 26, 27, 28, 29, 30, 31, 32, 33] (wN := (wX10 G h0 a0 f0 A0)) rfl rfl rfl rfl rfl hl.1 (Nat.le_of_ble_eq_true rfl) dX10_odds_13 (fun H locs hPD hS => ?_)
    refine lv_if_eq (tgt := 27) hx hb dX10_odds_16 (by decide) (fun cc1 => ?_) (fun cc1 => ?_)
    · have h := (if_pos cc1).symm.trans h
      refine lv_iconst (v := (-1)) hx hb dX10_odds_27 (by decide) ?_
      obtain rfl := Option.some.inj h
      exact eI C0 hPD.1 hPD.2 hS rfl dX10_odds_28
    · have h := (if_neg cc1).symm.trans h
      refine lv_iload_n hx hb dX10_odds_19 rfl (lv_at hl 1 rfl) ?_
      refine lv_aload_n hx hb dX10_odds_20 rfl (lv_at hl 0 rfl) ?_
      refine va_get (D := G.1) (ci := 10) (v := .int (f0 8)) (C := RX10) (T := TX10) (N := 52) hx hb hts inlX10 hown hK hPD.1 0 rfl rfl 8 (by decide) (hts _ gw_549) (fun _ h9 => h9) rfl dX10_odds_21 ?_
      refine lv_icmp_le (tgt := 29) hx hb dX10_odds_24 (by decide) (fun cc1 => ?_) (fun cc1 => ?_)
      · have h := (if_pos cc1).symm.trans h
        refine lv_aload_n hx hb dX10_odds_29 rfl (lv_at hl 0 rfl) ?_
        refine lv_iconst (v := 0) hx hb dX10_odds_30 (by decide) ?_
        refine va_put (D := G.1) (ci := 10) (v := .int 0) (ty := .int) (C := RX10) (T := TX10) (N := 52) hx hb hts inlX10 tyX10 tyX10_ok nmX10 hown hK hPD.1 hPD.2 hS 0 rfl rfl 8 (by decide) (hts _ gw_549) (fun _ h9 => h9) rfl (by decide +kernel) rfl rfl (Nat.le_of_ble_eq_true rfl) dX10_odds_31 (fun H locs hP hD hS => ?_)
        obtain ⟨f0_1, ef0_1, h⟩ := lvl h
        have hPD : WD G DA (wX10 G h0 a0 f0_1 A0) H := by rw [ef0_1]; exact ⟨hP, hD⟩
        clear ef0_1 hP hD
        refine lv_iconst (v := 1) hx hb dX10_odds_34 (by decide) ?_
        refine lv_istore_n (lv' := [(3, .int 1), (0, .ref h0), (1, .int p1), (2, .int p2)]) hx hb dX10_odds_35 rfl hl (by decide) rfl (fun ls hl => ?_)
        refine lv_iconst (v := 1) hx hb dX10_odds_36 (by decide) ?_
        refine lv_istore (lv' := [(4, .int 1), (3, .int 1), (0, .ref h0), (1, .int p1), (2, .int p2)]) hx hb dX10_odds_37 hl (by decide) rfl (fun ls hl => ?_)
        refine lv_iconst (v := 1) hx hb dX10_odds_39 (by decide) ?_
        refine lv_istore (lv' := [(5, .int 1), (4, .int 1), (3, .int 1), (0, .ref h0), (1, .int p1), (2, .int p2)]) hx hb dX10_odds_40 hl (by decide) rfl (fun ls hl => ?_)
        refine lv_iconst (v := 0) hx hb dX10_odds_42 (by decide) ?_
        refine lv_istore (lv' := [(6, .int 0), (5, .int 1), (4, .int 1), (3, .int 1), (0, .ref h0), (1, .int p1), (2, .int p2)]) hx hb dX10_odds_43 hl (by decide) rfl (fun ls hl => ?_)
        exact ww_f10_odds_l45 C0 NF f0_1 1 1 1 0 h _ _ _ hPD hS (lv_sub hl [4, 5, 6, 3, 2, 1, 0] rfl)
      · have h := (if_neg cc1).symm.trans h
        refine lv_iconst (v := (-1)) hx hb dX10_odds_27 (by decide) ?_
        obtain rfl := Option.some.inj h
        exact eI C0 hPD.1 hPD.2 hS rfl dX10_odds_28
abbrev rmX10_seed : Room := { frames := 1, cells := 0, slots := 0, locals := 22 }
set_option maxRecDepth 100000 in
set_option maxHeartbeats 4000000 in
theorem kt_X10_seed (l : Launch) (G : Gp) (h0 : Nat) (a0 : Nat → Nat) (f0 : Nat → Int32) (A0 : Nat → Nat → Int32) (p1 : Int32) : ∀ {r : Int32 × (Nat → Nat → Int32)}, f10_seed f0 A0 p1 = some r → CtrI l yX10_seed cX10_seed 2 (some .boolean) rmX10_seed G [.ref h0, .int p1] (wX10 G h0 a0 f0 A0) r.1 (wX10 G h0 a0 f0 r.2) := by
  intro res h
  refine ctrI_of (cc := cX10_seed) (maxL := 2) (ret := (some .boolean)) (by decide +kernel) rfl (Nat.le_of_ble_eq_true rfl) (fun p e s m below meth c DA C0 hP hD ls hl => ?_)
  have hPD : WD G DA (wX10 G h0 a0 f0 A0) s.heap := ⟨hP, hD⟩
  have hS : va_S DA s.heap s.heap [] := va_S.rf
  have hl : lv_has ls 2 [(0, .ref h0), (1, .int p1)] := hl
  obtain ⟨hx, hb, hml, hown, hts⟩ := C0.1
  have hK := C0.2.2.2.1
  unfold f10_seed at h
  refine lv_iload_n hx hb dX10_seed_0 rfl (lv_at hl 1 rfl) ?_
  refine lv_iconst (v := 0) hx hb dX10_seed_1 (by decide) ?_
  refine lv_ldcw (v := 65535) hx hb hown (hts _ gw_844) dX10_seed_2 ?_
  refine kSI (As := [.int p1, .int 0, .int 65535]) (rest := []) C0 (kt_X10_in l G  p1 0 65535) gi_S_X10_112_X10_in (n := 3) rfl (by decide +kernel) ⟨rfl, rfl, Nat.le_of_ble_eq_true rfl, Nat.le_of_ble_eq_true rfl⟩ hPD hS [] [0, 1, 2, 3, 4, 5, 6, 7, 8, 9, 10, 11, 12, 13, 14, 15, 16, 17, 18, 19, 20, 21, 22, 23, 24, 25, 26, 27, 28, 29, 30, 31, 32, 33] [0, 1, 2, 3, 4, 5, 6, 7, 8, 9, 10, 11, 12, 13, 14, 15, 16, 17, 18, 19, 20, 21, 22, 23, 24, 25, 26, 27, 28, 29, 30, 31, 32, 33] (wN := (wX10 G h0 a0 f0 A0)) rfl rfl rfl rfl rfl hl.1 (Nat.le_of_ble_eq_true rfl) dX10_seed_5 (fun H locs hPD hS => ?_)
  refine lv_if_ne (tgt := 13) hx hb dX10_seed_8 (by decide) (fun cc1 => ?_) (fun cc1 => ?_)
  · have h := (if_neg cc1).symm.trans h
    refine lv_aload_n hx hb dX10_seed_13 rfl (lv_at hl 0 rfl) ?_
    refine va_get (D := G.1) (ci := 10) (v := .ref (a0 0)) (C := RX10) (T := TX10) (N := 52) hx hb hts inlX10 hown hK hPD.1 0 rfl rfl 0 (by decide) (hts _ gw_539) (fun _ h9 => h9) rfl dX10_seed_14 ?_
    refine lv_bipush (v := 75) hx hb dX10_seed_17 (by decide) ?_
    refine lv_iload_n hx hb dX10_seed_19 rfl (lv_at hl 1 rfl) ?_
    refine va_iast hx hb hK hPD.1 hPD.2 hS 1 1 rfl rfl (vin rfl) dX10_seed_20 (fun H locs hP hD hS => ?_)
    obtain ⟨A0_1, eA0_1, h⟩ := lvl h
    have hPD : WD G DA (wX10 G h0 a0 f0 A0_1) H := by rw [eA0_1]; exact ⟨hP, hD⟩
    clear eA0_1 hP hD
    refine lv_iconst (v := 1) hx hb dX10_seed_21 (by decide) ?_
    obtain rfl := Option.some.inj h
    exact eZ C0 hPD.1 hPD.2 hS rfl rfl dX10_seed_22
  · have h := (if_pos cc1).symm.trans h
    refine lv_iconst (v := 0) hx hb dX10_seed_11 (by decide) ?_
    obtain rfl := Option.some.inj h
    exact eZ C0 hPD.1 hPD.2 hS rfl rfl dX10_seed_12
abbrev rmX10_keep : Room := { frames := 1, cells := 0, slots := 0, locals := 22 }
set_option maxRecDepth 100000 in
set_option maxHeartbeats 4000000 in
theorem kt_X10_keep (l : Launch) (G : Gp) (h0 : Nat) (a0 : Nat → Nat) (f0 : Nat → Int32) (A0 : Nat → Nat → Int32) : ∀ {r : Int32 × (Nat → Nat → Int32) × (Nat → Int32)}, f10_keep f0 A0 = some r → CtrI l yX10_keep cX10_keep 1 (some .int) rmX10_keep G [.ref h0] (wX10 G h0 a0 f0 A0) r.1 (wX10 G h0 a0 r.2.2 r.2.1) := by
  intro res h
  refine ctrI_of (cc := cX10_keep) (maxL := 1) (ret := (some .int)) (by decide +kernel) rfl (Nat.le_of_ble_eq_true rfl) (fun p e s m below meth c DA C0 hP hD ls hl => ?_)
  have hPD : WD G DA (wX10 G h0 a0 f0 A0) s.heap := ⟨hP, hD⟩
  have hS : va_S DA s.heap s.heap [] := va_S.rf
  have hl : lv_has ls 1 [(0, .ref h0)] := hl
  obtain ⟨hx, hb, hml, hown, hts⟩ := C0.1
  have hK := C0.2.2.2.1
  unfold f10_keep at h
  refine lv_aload_n hx hb dX10_keep_0 rfl (lv_at hl 0 rfl) ?_
  refine lv_iconst (v := 1) hx hb dX10_keep_1 (by decide) ?_
  refine va_put (D := G.1) (ci := 10) (v := .int 1) (ty := .boolean) (C := RX10) (T := TX10) (N := 52) hx hb hts inlX10 tyX10 tyX10_ok nmX10 hown hK hPD.1 hPD.2 hS 0 rfl rfl 51 (by decide) (hts _ gw_845) (fun _ h9 => h9) rfl (by decide +kernel) rfl rfl (Nat.le_of_ble_eq_true rfl) dX10_keep_2 (fun H locs hP hD hS => ?_)
  obtain ⟨f0_1, ef0_1, h⟩ := lvl h
  have hPD : WD G DA (wX10 G h0 a0 f0_1 A0) H := by rw [ef0_1]; exact ⟨hP, hD⟩
  clear ef0_1 hP hD
  refine lv_aload_n hx hb dX10_keep_5 rfl (lv_at hl 0 rfl) ?_
  refine va_get (D := G.1) (ci := 10) (v := .ref (a0 0)) (C := RX10) (T := TX10) (N := 52) hx hb hts inlX10 hown hK hPD.1 0 rfl rfl 0 (by decide) (hts _ gw_539) (fun _ h9 => h9) rfl dX10_keep_6 ?_
  refine lv_aload_n hx hb dX10_keep_9 rfl (lv_at hl 0 rfl) ?_
  refine va_get (D := G.1) (ci := 10) (v := .ref (a0 2)) (C := RX10) (T := TX10) (N := 52) hx hb hts inlX10 hown hK hPD.1 0 rfl rfl 2 (by decide) (hts _ gw_846) (fun _ h9 => h9) rfl dX10_keep_10 ?_
  obtain ⟨q_2, hq_2, h⟩ := ob2 h
  refine kSV (As := [.ref (a0 0), .ref (a0 2)]) (rest := []) C0 (kt_X10_copies l G (a0 0) (a0 2) 76 (A0 0) 76 (A0 2) (by decide) (by decide) hq_2) gi_S_X10_290_X10_copies (n := 2) rfl (by decide +kernel) ⟨rfl, rfl, Nat.le_of_ble_eq_true rfl, Nat.le_of_ble_eq_true rfl⟩ hPD hS [1, 3] [0, 2, 4, 5, 6, 7, 8, 9, 10, 11, 12, 13, 14, 15, 16, 17, 18, 19, 20, 21, 22, 23, 24, 25, 26, 27, 28, 29, 30, 31, 32, 33] [0, 32, 1, 33, 2, 3, 4, 5, 6, 7, 8, 9, 10, 11, 12, 13, 14, 15, 16, 17, 18, 19, 20, 21, 22, 23, 24, 25, 26, 27, 28, 29, 30, 31] (wN := (wX10 G h0 a0 f0_1 (updA A0 2 q_2))) rfl rfl rfl rfl rfl hl.1 (Nat.le_of_ble_eq_true rfl) dX10_keep_13 (fun H locs hPD hS => ?_)
  obtain ⟨A0_3, eA0_3, h⟩ := lvl h
  have hPD : WD G DA (wX10 G h0 a0 f0_1 A0_3) H := by rw [eA0_3]; exact hPD
  clear eA0_3
  refine lv_aload_n hx hb dX10_keep_16 rfl (lv_at hl 0 rfl) ?_
  refine va_get (D := G.1) (ci := 10) (v := .ref (a0 0)) (C := RX10) (T := TX10) (N := 52) hx hb hts inlX10 hown hK hPD.1 0 rfl rfl 0 (by decide) (hts _ gw_539) (fun _ h9 => h9) rfl dX10_keep_17 ?_
  refine lv_bipush (v := 74) hx hb dX10_keep_20 (by decide) ?_
  refine va_iald hx hb hK hPD.1 1 1 rfl rfl (vin rfl) dX10_keep_22 ?_
  obtain rfl := Option.some.inj h
  exact eI C0 hPD.1 hPD.2 hS rfl dX10_keep_23
abbrev rmX10_undo : Room := { frames := 1, cells := 0, slots := 0, locals := 22 }
set_option maxRecDepth 100000 in
set_option maxHeartbeats 4000000 in
theorem kt_X10_undo (l : Launch) (G : Gp) (h0 : Nat) (a0 : Nat → Nat) (f0 : Nat → Int32) (A0 : Nat → Nat → Int32) : ∀ {r : Int32 × (Nat → Nat → Int32)}, f10_undo f0 A0 = some r → CtrI l yX10_undo cX10_undo 1 (some .boolean) rmX10_undo G [.ref h0] (wX10 G h0 a0 f0 A0) r.1 (wX10 G h0 a0 f0 r.2) := by
  intro res h
  refine ctrI_of (cc := cX10_undo) (maxL := 1) (ret := (some .boolean)) (by decide +kernel) rfl (Nat.le_of_ble_eq_true rfl) (fun p e s m below meth c DA C0 hP hD ls hl => ?_)
  have hPD : WD G DA (wX10 G h0 a0 f0 A0) s.heap := ⟨hP, hD⟩
  have hS : va_S DA s.heap s.heap [] := va_S.rf
  have hl : lv_has ls 1 [(0, .ref h0)] := hl
  obtain ⟨hx, hb, hml, hown, hts⟩ := C0.1
  have hK := C0.2.2.2.1
  unfold f10_undo at h
  refine lv_aload_n hx hb dX10_undo_0 rfl (lv_at hl 0 rfl) ?_
  refine va_get (D := G.1) (ci := 10) (v := .int (f0 51)) (C := RX10) (T := TX10) (N := 52) hx hb hts inlX10 hown hK hPD.1 0 rfl rfl 51 (by decide) (hts _ gw_845) (fun _ h9 => h9) rfl dX10_undo_1 ?_
  refine lv_if_ne (tgt := 9) hx hb dX10_undo_4 (by decide) (fun cc1 => ?_) (fun cc1 => ?_)
  · have h := (if_neg cc1).symm.trans h
    refine lv_aload_n hx hb dX10_undo_9 rfl (lv_at hl 0 rfl) ?_
    refine va_get (D := G.1) (ci := 10) (v := .ref (a0 2)) (C := RX10) (T := TX10) (N := 52) hx hb hts inlX10 hown hK hPD.1 0 rfl rfl 2 (by decide) (hts _ gw_846) (fun _ h9 => h9) rfl dX10_undo_10 ?_
    refine lv_aload_n hx hb dX10_undo_13 rfl (lv_at hl 0 rfl) ?_
    refine va_get (D := G.1) (ci := 10) (v := .ref (a0 0)) (C := RX10) (T := TX10) (N := 52) hx hb hts inlX10 hown hK hPD.1 0 rfl rfl 0 (by decide) (hts _ gw_539) (fun _ h9 => h9) rfl dX10_undo_14 ?_
    obtain ⟨q_1, hq_1, h⟩ := ob2 h
    refine kSV (As := [.ref (a0 2), .ref (a0 0)]) (rest := []) C0 (kt_X10_copies l G (a0 2) (a0 0) 76 (A0 2) 76 (A0 0) (by decide) (by decide) hq_1) gi_S_X10_290_X10_copies (n := 2) rfl (by decide +kernel) ⟨rfl, rfl, Nat.le_of_ble_eq_true rfl, Nat.le_of_ble_eq_true rfl⟩ hPD hS [3, 1] [0, 2, 4, 5, 6, 7, 8, 9, 10, 11, 12, 13, 14, 15, 16, 17, 18, 19, 20, 21, 22, 23, 24, 25, 26, 27, 28, 29, 30, 31, 32, 33] [0, 33, 1, 32, 2, 3, 4, 5, 6, 7, 8, 9, 10, 11, 12, 13, 14, 15, 16, 17, 18, 19, 20, 21, 22, 23, 24, 25, 26, 27, 28, 29, 30, 31] (wN := (wX10 G h0 a0 f0 (updA A0 0 q_1))) rfl rfl rfl rfl rfl hl.1 (Nat.le_of_ble_eq_true rfl) dX10_undo_17 (fun H locs hPD hS => ?_)
    obtain ⟨A0_2, eA0_2, h⟩ := lvl h
    have hPD : WD G DA (wX10 G h0 a0 f0 A0_2) H := by rw [eA0_2]; exact hPD
    clear eA0_2
    refine lv_iconst (v := 1) hx hb dX10_undo_20 (by decide) ?_
    obtain rfl := Option.some.inj h
    exact eZ C0 hPD.1 hPD.2 hS rfl rfl dX10_undo_21
  · have h := (if_pos cc1).symm.trans h
    refine lv_iconst (v := 0) hx hb dX10_undo_7 (by decide) ?_
    obtain rfl := Option.some.inj h
    exact eZ C0 hPD.1 hPD.2 hS rfl rfl dX10_undo_8
abbrev rmX10_check : Room := { frames := 2, cells := 0, slots := 0, locals := 43 }
set_option maxRecDepth 100000 in
set_option maxHeartbeats 4000000 in
theorem ww_f10_check_b28  (C0 : Cx cX10_check 3 (some .int) RX10 p s m args meth c G DA) {h0 : Nat} {a0 : Nat → Nat} {A0 : Nat → Nat → Int32} {p1 : Int32}  {k28 : (Nat → Int32) → Int32 → Option (Int32 × (Nat → Int32))} {res : Int32 × (Nat → Int32)}  (hk28 : ∀ (f0 : Nat → Int32) (l2 : Int32), k28 f0 l2 = some res → ∀ (H : Heap) (locs : List Loc) (ls : Array Slot), WD G DA (wX10 G h0 a0 f0 A0) H → va_S DA s.heap H locs → lv_has ls 3 [(0, .ref h0), (1, .int p1), (2, .int l2)] → W p l e rmX10_check s m args below meth c H locs 0 0 (MQ below (QI G DA res.1 (wX10 G h0 a0 res.2 A0)) args s 0 0 DA) (F0 m 28 ls [])) : ∀ (f0 : Nat → Int32) (l2 : Int32), f10_check_b28 A0 p1  k28 f0 l2 = some res → ∀ (H : Heap) (locs : List Loc) (ls : Array Slot), WD G DA (wX10 G h0 a0 f0 A0) H → va_S DA s.heap H locs → lv_has ls 3 [(0, .ref h0), (1, .int p1), (2, .int l2)] → W p l e rmX10_check s m args below meth c H locs 0 0 (MQ below (QI G DA res.1 (wX10 G h0 a0 res.2 A0)) args s 0 0 DA) (F0 m 28 ls []) := by
  obtain ⟨hx, hb, hml, hown, hts⟩ := C0.1
  have hK := C0.2.2.2.1
  intro f0 l2 h _ _ _ hPD hS hl
  unfold f10_check_b28 at h
  refine lv_iload_n hx hb dX10_check_28 rfl (lv_at hl 2 rfl) ?_
  refine lv_iload_n hx hb dX10_check_29 rfl (lv_at hl 1 rfl) ?_
  refine lv_icmp_ge (tgt := 71) hx hb dX10_check_30 (by decide) (fun cc1 => ?_) (fun cc1 => ?_)
  · have h := (if_pos cc1).symm.trans h
    refine lv_iconst (v := (-1)) hx hb dX10_check_71 (by decide) ?_
    obtain rfl := Option.some.inj h
    exact eI C0 hPD.1 hPD.2 hS rfl dX10_check_72
  · have h := (if_neg cc1).symm.trans h
    refine lv_aload_n hx hb dX10_check_33 rfl (lv_at hl 0 rfl) ?_
    refine lv_iload_n hx hb dX10_check_34 rfl (lv_at hl 2 rfl) ?_
    obtain ⟨q_2, hq_2, h⟩ := ob2 h
    refine kVI (As := [.int l2]) (rest := []) C0 (kt_X10_octet l G h0 a0 f0 A0 l2 hq_2) gi_V_X10_360_X10_octet (n := 1) rfl (by decide +kernel) rfl ⟨rfl, rfl, Nat.le_of_ble_eq_true rfl, Nat.le_of_ble_eq_true rfl⟩ hPD hS 0 10 rfl rfl rfl [0, 1, 2, 3, 4, 5, 6, 7, 8, 9, 10, 11, 12, 13, 14, 15, 16, 17, 18, 19, 20, 21, 22, 23, 24, 25, 26, 27, 28, 29, 30, 31, 32, 33] [] [0, 1, 2, 3, 4, 5, 6, 7, 8, 9, 10, 11, 12, 13, 14, 15, 16, 17, 18, 19, 20, 21, 22, 23, 24, 25, 26, 27, 28, 29, 30, 31, 32, 33] (wN := (wX10 G h0 a0 f0 A0)) rfl rfl rfl rfl rfl hl.1 (Nat.le_of_ble_eq_true rfl) dX10_check_35 (fun H locs hPD hS => ?_)
    refine lv_aload_n hx hb dX10_check_38 rfl (lv_at hl 0 rfl) ?_
    refine lv_iload_n hx hb dX10_check_39 rfl (lv_at hl 2 rfl) ?_
    refine kVI (As := [.int l2]) (rest := [.int q_2]) C0 (kt_X10_isTold l G h0 a0 f0 A0 l2) gi_V_X10_128_X10_isTold (n := 1) rfl (by decide +kernel) rfl ⟨rfl, rfl, Nat.le_of_ble_eq_true rfl, Nat.le_of_ble_eq_true rfl⟩ hPD hS 0 10 rfl rfl rfl [0, 1, 2, 3, 4, 5, 6, 7, 8, 9, 10, 11, 12, 13, 14, 15, 16, 17, 18, 19, 20, 21, 22, 23, 24, 25, 26, 27, 28, 29, 30, 31, 32, 33] [] [0, 1, 2, 3, 4, 5, 6, 7, 8, 9, 10, 11, 12, 13, 14, 15, 16, 17, 18, 19, 20, 21, 22, 23, 24, 25, 26, 27, 28, 29, 30, 31, 32, 33] (wN := (wX10 G h0 a0 f0 A0)) rfl rfl rfl rfl rfl hl.1 (Nat.le_of_ble_eq_true rfl) dX10_check_40 (fun H locs hPD hS => ?_)
    refine lv_if_eq (tgt := 57) hx hb dX10_check_43 (by decide) (fun cc1 => ?_) (fun cc1 => ?_)
    · have h := (if_pos cc1).symm.trans h
      refine lv_sipush (v := 255) hx hb dX10_check_57 (by decide) ?_
      refine lv_icmp_eq (tgt := 65) hx hb dX10_check_60 (by decide) (fun cc1 => ?_) (fun cc1 => ?_)
      · have h := (if_pos cc1).symm.trans h
        refine lv_iinc (v := l2 + 1) (lv' := [(2, .int (l2 + 1)), (0, .ref h0), (1, .int p1)]) hx hb dX10_check_65 hl (k := 2) rfl rfl (by decide) rfl (fun ls hl => ?_)
        refine lv_goto (tgt := 28) hx hb dX10_check_68 (by decide) ?_
        exact hk28 f0 (l2 + 1) h _ _ _ hPD hS (lv_sub hl [1, 2, 0] rfl)
      · have h := (if_neg cc1).symm.trans h
        refine lv_iload_n hx hb dX10_check_63 rfl (lv_at hl 2 rfl) ?_
        obtain rfl := Option.some.inj h
        exact eI C0 hPD.1 hPD.2 hS rfl dX10_check_64
    · have h := (if_neg cc1).symm.trans h
      refine lv_aload_n hx hb dX10_check_46 rfl (lv_at hl 0 rfl) ?_
      refine va_get (D := G.1) (ci := 10) (v := .ref (a0 0)) (C := RX10) (T := TX10) (N := 52) hx hb hts inlX10 hown hK hPD.1 0 rfl rfl 0 (by decide) (hts _ gw_539) (fun _ h9 => h9) rfl dX10_check_47 ?_
      refine lv_iconst (v := 0) hx hb dX10_check_50 (by decide) ?_
      refine lv_iload_n hx hb dX10_check_51 rfl (lv_at hl 2 rfl) ?_
      refine lv_iadd hx hb dX10_check_52 ?_
      obtain ⟨hi_3, h⟩ := ob h
      refine va_iald hx hb hK hPD.1 1 1 rfl rfl hi_3 dX10_check_53 ?_
      refine lv_goto (tgt := 60) hx hb dX10_check_54 (by decide) ?_
      refine lv_icmp_eq (tgt := 65) hx hb dX10_check_60 (by decide) (fun cc1 => ?_) (fun cc1 => ?_)
      · have h := (if_pos cc1).symm.trans h
        refine lv_iinc (v := l2 + 1) (lv' := [(2, .int (l2 + 1)), (0, .ref h0), (1, .int p1)]) hx hb dX10_check_65 hl (k := 2) rfl rfl (by decide) rfl (fun ls hl => ?_)
        refine lv_goto (tgt := 28) hx hb dX10_check_68 (by decide) ?_
        exact hk28 f0 (l2 + 1) h _ _ _ hPD hS (lv_sub hl [1, 2, 0] rfl)
      · have h := (if_neg cc1).symm.trans h
        refine lv_iload_n hx hb dX10_check_63 rfl (lv_at hl 2 rfl) ?_
        obtain rfl := Option.some.inj h
        exact eI C0 hPD.1 hPD.2 hS rfl dX10_check_64
set_option maxRecDepth 100000 in
set_option maxHeartbeats 4000000 in
theorem ww_f10_check_l28  (C0 : Cx cX10_check 3 (some .int) RX10 p s m args meth c G DA) {h0 : Nat} {a0 : Nat → Nat} {A0 : Nat → Nat → Int32} {p1 : Int32}   {res : Int32 × (Nat → Int32)}  : ∀ (n : Nat) (f0 : Nat → Int32) (l2 : Int32), f10_check_l28 A0 p1  n f0 l2 = some res → ∀ (H : Heap) (locs : List Loc) (ls : Array Slot), WD G DA (wX10 G h0 a0 f0 A0) H → va_S DA s.heap H locs → lv_has ls 3 [(0, .ref h0), (1, .int p1), (2, .int l2)] → W p l e rmX10_check s m args below meth c H locs 0 0 (MQ below (QI G DA res.1 (wX10 G h0 a0 res.2 A0)) args s 0 0 DA) (F0 m 28 ls []) := by
  intro n
  induction n with
  | zero => intro f0 l2 h; cases h
  | succ n ih => intro f0 l2 h; exact ww_f10_check_b28 C0  ih f0 l2 h
set_option maxRecDepth 100000 in
set_option maxHeartbeats 4000000 in
theorem kt_X10_check (l : Launch) (G : Gp) (h0 : Nat) (a0 : Nat → Nat) (f0 : Nat → Int32) (A0 : Nat → Nat → Int32) (p1 : Int32) : ∀ {r : Int32 × (Nat → Int32)}, f10_check f0 A0 p1 = some r → CtrI l yX10_check cX10_check 3 (some .int) rmX10_check G [.ref h0, .int p1] (wX10 G h0 a0 f0 A0) r.1 (wX10 G h0 a0 r.2 A0) := by
  intro res h
  refine ctrI_of (cc := cX10_check) (maxL := 3) (ret := (some .int)) (by decide +kernel) rfl (Nat.le_of_ble_eq_true rfl) (fun p e s m below meth c DA C0 hP hD ls hl => ?_)
  have hPD : WD G DA (wX10 G h0 a0 f0 A0) s.heap := ⟨hP, hD⟩
  have hS : va_S DA s.heap s.heap [] := va_S.rf
  have hl : lv_has ls 3 [(0, .ref h0), (1, .int p1)] := hl
  obtain ⟨hx, hb, hml, hown, hts⟩ := C0.1
  have hK := C0.2.2.2.1
  unfold f10_check at h
  refine lv_iload_n hx hb dX10_check_0 rfl (lv_at hl 1 rfl) ?_
  refine lv_iconst (v := 0) hx hb dX10_check_1 (by decide) ?_
  refine lv_bipush (v := 16) hx hb dX10_check_2 (by decide) ?_
  refine kSI (As := [.int p1, .int 0, .int 16]) (rest := []) C0 (kt_X10_in l G  p1 0 16) gi_S_X10_112_X10_in (n := 3) rfl (by decide +kernel) ⟨rfl, rfl, Nat.le_of_ble_eq_true rfl, Nat.le_of_ble_eq_true rfl⟩ hPD hS [] [0, 1, 2, 3, 4, 5, 6, 7, 8, 9, 10, 11, 12, 13, 14, 15, 16, 17, 18, 19, 20, 21, 22, 23, 24, 25, 26, 27, 28, 29, 30, 31, 32, 33] [0, 1, 2, 3, 4, 5, 6, 7, 8, 9, 10, 11, 12, 13, 14, 15, 16, 17, 18, 19, 20, 21, 22, 23, 24, 25, 26, 27, 28, 29, 30, 31, 32, 33] (wN := (wX10 G h0 a0 f0 A0)) rfl rfl rfl rfl rfl hl.1 (Nat.le_of_ble_eq_true rfl) dX10_check_4 (fun H locs hPD hS => ?_)
  refine lv_if_eq (tgt := 18) hx hb dX10_check_7 (by decide) (fun cc1 => ?_) (fun cc1 => ?_)
  · have h := (if_pos cc1).symm.trans h
    refine lv_bipush (v := (-2)) hx hb dX10_check_18 (by decide) ?_
    obtain rfl := Option.some.inj h
    exact eI C0 hPD.1 hPD.2 hS rfl dX10_check_20
  · have h := (if_neg cc1).symm.trans h
    refine lv_iload_n hx hb dX10_check_10 rfl (lv_at hl 1 rfl) ?_
    refine lv_aload_n hx hb dX10_check_11 rfl (lv_at hl 0 rfl) ?_
    refine va_get (D := G.1) (ci := 10) (v := .int (f0 8)) (C := RX10) (T := TX10) (N := 52) hx hb hts inlX10 hown hK hPD.1 0 rfl rfl 8 (by decide) (hts _ gw_549) (fun _ h9 => h9) rfl dX10_check_12 ?_
    refine lv_icmp_le (tgt := 21) hx hb dX10_check_15 (by decide) (fun cc1 => ?_) (fun cc1 => ?_)
    · have h := (if_pos cc1).symm.trans h
      refine lv_aload_n hx hb dX10_check_21 rfl (lv_at hl 0 rfl) ?_
      refine lv_iconst (v := 0) hx hb dX10_check_22 (by decide) ?_
      refine va_put (D := G.1) (ci := 10) (v := .int 0) (ty := .int) (C := RX10) (T := TX10) (N := 52) hx hb hts inlX10 tyX10 tyX10_ok nmX10 hown hK hPD.1 hPD.2 hS 0 rfl rfl 8 (by decide) (hts _ gw_549) (fun _ h9 => h9) rfl (by decide +kernel) rfl rfl (Nat.le_of_ble_eq_true rfl) dX10_check_23 (fun H locs hP hD hS => ?_)
      obtain ⟨f0_1, ef0_1, h⟩ := lvl h
      have hPD : WD G DA (wX10 G h0 a0 f0_1 A0) H := by rw [ef0_1]; exact ⟨hP, hD⟩
      clear ef0_1 hP hD
      refine lv_iconst (v := 0) hx hb dX10_check_26 (by decide) ?_
      refine lv_istore_n (lv' := [(2, .int 0), (0, .ref h0), (1, .int p1)]) hx hb dX10_check_27 rfl hl (by decide) rfl (fun ls hl => ?_)
      exact ww_f10_check_l28 C0 NF f0_1 0 h _ _ _ hPD hS (lv_sub hl [1, 2, 0] rfl)
    · have h := (if_neg cc1).symm.trans h
      refine lv_bipush (v := (-2)) hx hb dX10_check_18 (by decide) ?_
      obtain rfl := Option.some.inj h
      exact eI C0 hPD.1 hPD.2 hS rfl dX10_check_20
abbrev rmX10_menSet : Room := { frames := 2, cells := 0, slots := 0, locals := 43 }
set_option maxRecDepth 100000 in
set_option maxHeartbeats 4000000 in
theorem ww_f10_menSet_b4  (C0 : Cx cX10_menSet 3 (some .int) RX10 p s m args meth c G DA) {h0 : Nat} {a0 : Nat → Nat} {f0 : Nat → Int32} {A0 : Nat → Nat → Int32}  {k4 : Int32 → Int32 → Option (Int32)} {res : Int32}  (hk4 : ∀ (l1 : Int32) (l2 : Int32), k4 l1 l2 = some res → ∀ (H : Heap) (locs : List Loc) (ls : Array Slot), WD G DA (wX10 G h0 a0 f0 A0) H → va_S DA s.heap H locs → lv_has ls 3 [(0, .ref h0), (1, .int l1), (2, .int l2)] → W p l e rmX10_menSet s m args below meth c H locs 0 0 (MQ below (QI G DA res (wX10 G h0 a0 f0 A0)) args s 0 0 DA) (F0 m 4 ls [])) : ∀ (l1 : Int32) (l2 : Int32), f10_menSet_b4 f0 A0  k4 l1 l2 = some res → ∀ (H : Heap) (locs : List Loc) (ls : Array Slot), WD G DA (wX10 G h0 a0 f0 A0) H → va_S DA s.heap H locs → lv_has ls 3 [(0, .ref h0), (1, .int l1), (2, .int l2)] → W p l e rmX10_menSet s m args below meth c H locs 0 0 (MQ below (QI G DA res (wX10 G h0 a0 f0 A0)) args s 0 0 DA) (F0 m 4 ls []) := by
  obtain ⟨hx, hb, hml, hown, hts⟩ := C0.1
  have hK := C0.2.2.2.1
  intro l1 l2 h _ _ _ hPD hS hl
  unfold f10_menSet_b4 at h
  refine lv_iload_n hx hb dX10_menSet_4 rfl (lv_at hl 2 rfl) ?_
  refine lv_bipush (v := 8) hx hb dX10_menSet_5 (by decide) ?_
  refine lv_icmp_ge (tgt := 30) hx hb dX10_menSet_7 (by decide) (fun cc1 => ?_) (fun cc1 => ?_)
  · have h := (if_pos cc1).symm.trans h
    refine lv_iload_n hx hb dX10_menSet_30 rfl (lv_at hl 1 rfl) ?_
    obtain rfl := Option.some.inj h
    exact eI C0 hPD.1 hPD.2 hS rfl dX10_menSet_31
  · have h := (if_neg cc1).symm.trans h
    refine lv_aload_n hx hb dX10_menSet_10 rfl (lv_at hl 0 rfl) ?_
    refine lv_iload_n hx hb dX10_menSet_11 rfl (lv_at hl 2 rfl) ?_
    obtain ⟨q_1, hq_1, h⟩ := ob2 h
    refine kVI (As := [.int l2]) (rest := []) C0 (kt_X10_isMan l G h0 a0 f0 A0 l2 hq_1) gi_V_X10_124_X10_isMan (n := 1) rfl (by decide +kernel) rfl ⟨rfl, rfl, Nat.le_of_ble_eq_true rfl, Nat.le_of_ble_eq_true rfl⟩ hPD hS 0 10 rfl rfl rfl [0, 1, 2, 3, 4, 5, 6, 7, 8, 9, 10, 11, 12, 13, 14, 15, 16, 17, 18, 19, 20, 21, 22, 23, 24, 25, 26, 27, 28, 29, 30, 31, 32, 33] [] [0, 1, 2, 3, 4, 5, 6, 7, 8, 9, 10, 11, 12, 13, 14, 15, 16, 17, 18, 19, 20, 21, 22, 23, 24, 25, 26, 27, 28, 29, 30, 31, 32, 33] (wN := (wX10 G h0 a0 f0 A0)) rfl rfl rfl rfl rfl hl.1 (Nat.le_of_ble_eq_true rfl) dX10_menSet_12 (fun H locs hPD hS => ?_)
    refine lv_if_eq (tgt := 24) hx hb dX10_menSet_15 (by decide) (fun cc1 => ?_) (fun cc1 => ?_)
    · have h := (if_pos cc1).symm.trans h
      refine lv_iinc (v := l2 + 1) (lv' := [(2, .int (l2 + 1)), (0, .ref h0), (1, .int l1)]) hx hb dX10_menSet_24 hl (k := 2) rfl rfl (by decide) rfl (fun ls hl => ?_)
      refine lv_goto (tgt := 4) hx hb dX10_menSet_27 (by decide) ?_
      exact hk4 l1 (l2 + 1) h _ _ _ hPD hS (lv_sub hl [1, 2, 0] rfl)
    · have h := (if_neg cc1).symm.trans h
      refine lv_iload_n hx hb dX10_menSet_18 rfl (lv_at hl 1 rfl) ?_
      refine lv_iconst (v := 1) hx hb dX10_menSet_19 (by decide) ?_
      refine lv_iload_n hx hb dX10_menSet_20 rfl (lv_at hl 2 rfl) ?_
      refine lv_ishl hx hb dX10_menSet_21 ?_
      refine lv_ior hx hb dX10_menSet_22 ?_
      refine lv_istore_n (lv' := [(1, .int (l1 ||| (shl 1 l2))), (0, .ref h0), (2, .int l2)]) hx hb dX10_menSet_23 rfl hl (by decide) rfl (fun ls hl => ?_)
      refine lv_iinc (v := l2 + 1) (lv' := [(2, .int (l2 + 1)), (1, .int (l1 ||| (shl 1 l2))), (0, .ref h0)]) hx hb dX10_menSet_24 hl (k := 2) rfl rfl (by decide) rfl (fun ls hl => ?_)
      refine lv_goto (tgt := 4) hx hb dX10_menSet_27 (by decide) ?_
      exact hk4 (l1 ||| (shl 1 l2)) (l2 + 1) h _ _ _ hPD hS (lv_sub hl [2, 1, 0] rfl)
set_option maxRecDepth 100000 in
set_option maxHeartbeats 4000000 in
theorem ww_f10_menSet_l4  (C0 : Cx cX10_menSet 3 (some .int) RX10 p s m args meth c G DA) {h0 : Nat} {a0 : Nat → Nat} {f0 : Nat → Int32} {A0 : Nat → Nat → Int32}   {res : Int32}  : ∀ (n : Nat) (l1 : Int32) (l2 : Int32), f10_menSet_l4 f0 A0  n l1 l2 = some res → ∀ (H : Heap) (locs : List Loc) (ls : Array Slot), WD G DA (wX10 G h0 a0 f0 A0) H → va_S DA s.heap H locs → lv_has ls 3 [(0, .ref h0), (1, .int l1), (2, .int l2)] → W p l e rmX10_menSet s m args below meth c H locs 0 0 (MQ below (QI G DA res (wX10 G h0 a0 f0 A0)) args s 0 0 DA) (F0 m 4 ls []) := by
  intro n
  induction n with
  | zero => intro l1 l2 h; cases h
  | succ n ih => intro l1 l2 h; exact ww_f10_menSet_b4 C0  ih l1 l2 h
set_option maxRecDepth 100000 in
set_option maxHeartbeats 4000000 in
theorem kt_X10_menSet (l : Launch) (G : Gp) (h0 : Nat) (a0 : Nat → Nat) (f0 : Nat → Int32) (A0 : Nat → Nat → Int32) : ∀ {r : Int32}, f10_menSet f0 A0 = some r → CtrI l yX10_menSet cX10_menSet 3 (some .int) rmX10_menSet G [.ref h0] (wX10 G h0 a0 f0 A0) r (wX10 G h0 a0 f0 A0) := by
  intro res h
  refine ctrI_of (cc := cX10_menSet) (maxL := 3) (ret := (some .int)) (by decide +kernel) rfl (Nat.le_of_ble_eq_true rfl) (fun p e s m below meth c DA C0 hP hD ls hl => ?_)
  have hPD : WD G DA (wX10 G h0 a0 f0 A0) s.heap := ⟨hP, hD⟩
  have hS : va_S DA s.heap s.heap [] := va_S.rf
  have hl : lv_has ls 3 [(0, .ref h0)] := hl
  obtain ⟨hx, hb, hml, hown, hts⟩ := C0.1
  have hK := C0.2.2.2.1
  unfold f10_menSet at h
  refine lv_iconst (v := 0) hx hb dX10_menSet_0 (by decide) ?_
  refine lv_istore_n (lv' := [(1, .int 0), (0, .ref h0)]) hx hb dX10_menSet_1 rfl hl (by decide) rfl (fun ls hl => ?_)
  refine lv_iconst (v := 0) hx hb dX10_menSet_2 (by decide) ?_
  refine lv_istore_n (lv' := [(2, .int 0), (1, .int 0), (0, .ref h0)]) hx hb dX10_menSet_3 rfl hl (by decide) rfl (fun ls hl => ?_)
  exact ww_f10_menSet_l4 C0 NF 0 0 h _ _ _ hPD hS (lv_sub hl [2, 1, 0] rfl)
abbrev rmX10_wages : Room := { frames := 2, cells := 0, slots := 0, locals := 43 }
set_option maxRecDepth 100000 in
set_option maxHeartbeats 4000000 in
theorem ww_f10_wages_b4  (C0 : Cx cX10_wages 3 (some .int) RX10 p s m args meth c G DA) {h0 : Nat} {a0 : Nat → Nat} {f0 : Nat → Int32} {A0 : Nat → Nat → Int32}  {k4 : Int32 → Int32 → Option (Int32)} {res : Int32}  (hk4 : ∀ (l1 : Int32) (l2 : Int32), k4 l1 l2 = some res → ∀ (H : Heap) (locs : List Loc) (ls : Array Slot), WD G DA (wX10 G h0 a0 f0 A0) H → va_S DA s.heap H locs → lv_has ls 3 [(0, .ref h0), (1, .int l1), (2, .int l2)] → W p l e rmX10_wages s m args below meth c H locs 0 0 (MQ below (QI G DA res (wX10 G h0 a0 f0 A0)) args s 0 0 DA) (F0 m 4 ls [])) : ∀ (l1 : Int32) (l2 : Int32), f10_wages_b4 f0 A0  k4 l1 l2 = some res → ∀ (H : Heap) (locs : List Loc) (ls : Array Slot), WD G DA (wX10 G h0 a0 f0 A0) H → va_S DA s.heap H locs → lv_has ls 3 [(0, .ref h0), (1, .int l1), (2, .int l2)] → W p l e rmX10_wages s m args below meth c H locs 0 0 (MQ below (QI G DA res (wX10 G h0 a0 f0 A0)) args s 0 0 DA) (F0 m 4 ls []) := by
  obtain ⟨hx, hb, hml, hown, hts⟩ := C0.1
  have hK := C0.2.2.2.1
  intro l1 l2 h _ _ _ hPD hS hl
  unfold f10_wages_b4 at h
  refine lv_iload_n hx hb dX10_wages_4 rfl (lv_at hl 2 rfl) ?_
  refine lv_bipush (v := 8) hx hb dX10_wages_5 (by decide) ?_
  refine lv_icmp_ge (tgt := 36) hx hb dX10_wages_7 (by decide) (fun cc1 => ?_) (fun cc1 => ?_)
  · have h := (if_pos cc1).symm.trans h
    refine lv_iload_n hx hb dX10_wages_36 rfl (lv_at hl 1 rfl) ?_
    obtain rfl := Option.some.inj h
    exact eI C0 hPD.1 hPD.2 hS rfl dX10_wages_37
  · have h := (if_neg cc1).symm.trans h
    refine lv_aload_n hx hb dX10_wages_10 rfl (lv_at hl 0 rfl) ?_
    refine lv_iload_n hx hb dX10_wages_11 rfl (lv_at hl 2 rfl) ?_
    obtain ⟨q_1, hq_1, h⟩ := ob2 h
    refine kVI (As := [.int l2]) (rest := []) C0 (kt_X10_isMan l G h0 a0 f0 A0 l2 hq_1) gi_V_X10_124_X10_isMan (n := 1) rfl (by decide +kernel) rfl ⟨rfl, rfl, Nat.le_of_ble_eq_true rfl, Nat.le_of_ble_eq_true rfl⟩ hPD hS 0 10 rfl rfl rfl [0, 1, 2, 3, 4, 5, 6, 7, 8, 9, 10, 11, 12, 13, 14, 15, 16, 17, 18, 19, 20, 21, 22, 23, 24, 25, 26, 27, 28, 29, 30, 31, 32, 33] [] [0, 1, 2, 3, 4, 5, 6, 7, 8, 9, 10, 11, 12, 13, 14, 15, 16, 17, 18, 19, 20, 21, 22, 23, 24, 25, 26, 27, 28, 29, 30, 31, 32, 33] (wN := (wX10 G h0 a0 f0 A0)) rfl rfl rfl rfl rfl hl.1 (Nat.le_of_ble_eq_true rfl) dX10_wages_12 (fun H locs hPD hS => ?_)
    refine lv_if_eq (tgt := 30) hx hb dX10_wages_15 (by decide) (fun cc1 => ?_) (fun cc1 => ?_)
    · have h := (if_pos cc1).symm.trans h
      refine lv_iinc (v := l2 + 1) (lv' := [(2, .int (l2 + 1)), (0, .ref h0), (1, .int l1)]) hx hb dX10_wages_30 hl (k := 2) rfl rfl (by decide) rfl (fun ls hl => ?_)
      refine lv_goto (tgt := 4) hx hb dX10_wages_33 (by decide) ?_
      exact hk4 l1 (l2 + 1) h _ _ _ hPD hS (lv_sub hl [1, 2, 0] rfl)
    · have h := (if_neg cc1).symm.trans h
      refine lv_iload_n hx hb dX10_wages_18 rfl (lv_at hl 1 rfl) ?_
      refine lv_aload_n hx hb dX10_wages_19 rfl (lv_at hl 0 rfl) ?_
      refine va_get (D := G.1) (ci := 10) (v := .ref (a0 0)) (C := RX10) (T := TX10) (N := 52) hx hb hts inlX10 hown hK hPD.1 0 rfl rfl 0 (by decide) (hts _ gw_539) (fun _ h9 => h9) rfl dX10_wages_20 ?_
      refine lv_bipush (v := 64) hx hb dX10_wages_23 (by decide) ?_
      refine lv_iload_n hx hb dX10_wages_25 rfl (lv_at hl 2 rfl) ?_
      refine lv_iadd hx hb dX10_wages_26 ?_
      obtain ⟨hi_2, h⟩ := ob h
      refine va_iald hx hb hK hPD.1 1 1 rfl rfl hi_2 dX10_wages_27 ?_
      refine lv_iadd hx hb dX10_wages_28 ?_
      refine lv_istore_n (lv' := [(1, .int (l1 + (gx (A0 0) (64 + l2)))), (0, .ref h0), (2, .int l2)]) hx hb dX10_wages_29 rfl hl (by decide) rfl (fun ls hl => ?_)
      refine lv_iinc (v := l2 + 1) (lv' := [(2, .int (l2 + 1)), (1, .int (l1 + (gx (A0 0) (64 + l2)))), (0, .ref h0)]) hx hb dX10_wages_30 hl (k := 2) rfl rfl (by decide) rfl (fun ls hl => ?_)
      refine lv_goto (tgt := 4) hx hb dX10_wages_33 (by decide) ?_
      exact hk4 (l1 + (gx (A0 0) (64 + l2))) (l2 + 1) h _ _ _ hPD hS (lv_sub hl [2, 1, 0] rfl)
set_option maxRecDepth 100000 in
set_option maxHeartbeats 4000000 in
theorem ww_f10_wages_l4  (C0 : Cx cX10_wages 3 (some .int) RX10 p s m args meth c G DA) {h0 : Nat} {a0 : Nat → Nat} {f0 : Nat → Int32} {A0 : Nat → Nat → Int32}   {res : Int32}  : ∀ (n : Nat) (l1 : Int32) (l2 : Int32), f10_wages_l4 f0 A0  n l1 l2 = some res → ∀ (H : Heap) (locs : List Loc) (ls : Array Slot), WD G DA (wX10 G h0 a0 f0 A0) H → va_S DA s.heap H locs → lv_has ls 3 [(0, .ref h0), (1, .int l1), (2, .int l2)] → W p l e rmX10_wages s m args below meth c H locs 0 0 (MQ below (QI G DA res (wX10 G h0 a0 f0 A0)) args s 0 0 DA) (F0 m 4 ls []) := by
  intro n
  induction n with
  | zero => intro l1 l2 h; cases h
  | succ n ih => intro l1 l2 h; exact ww_f10_wages_b4 C0  ih l1 l2 h
set_option maxRecDepth 100000 in
set_option maxHeartbeats 4000000 in
theorem kt_X10_wages (l : Launch) (G : Gp) (h0 : Nat) (a0 : Nat → Nat) (f0 : Nat → Int32) (A0 : Nat → Nat → Int32) : ∀ {r : Int32}, f10_wages f0 A0 = some r → CtrI l yX10_wages cX10_wages 3 (some .int) rmX10_wages G [.ref h0] (wX10 G h0 a0 f0 A0) r (wX10 G h0 a0 f0 A0) := by
  intro res h
  refine ctrI_of (cc := cX10_wages) (maxL := 3) (ret := (some .int)) (by decide +kernel) rfl (Nat.le_of_ble_eq_true rfl) (fun p e s m below meth c DA C0 hP hD ls hl => ?_)
  have hPD : WD G DA (wX10 G h0 a0 f0 A0) s.heap := ⟨hP, hD⟩
  have hS : va_S DA s.heap s.heap [] := va_S.rf
  have hl : lv_has ls 3 [(0, .ref h0)] := hl
  obtain ⟨hx, hb, hml, hown, hts⟩ := C0.1
  have hK := C0.2.2.2.1
  unfold f10_wages at h
  refine lv_iconst (v := 0) hx hb dX10_wages_0 (by decide) ?_
  refine lv_istore_n (lv' := [(1, .int 0), (0, .ref h0)]) hx hb dX10_wages_1 rfl hl (by decide) rfl (fun ls hl => ?_)
  refine lv_iconst (v := 0) hx hb dX10_wages_2 (by decide) ?_
  refine lv_istore_n (lv' := [(2, .int 0), (1, .int 0), (0, .ref h0)]) hx hb dX10_wages_3 rfl hl (by decide) rfl (fun ls hl => ?_)
  exact ww_f10_wages_l4 C0 NF 0 0 h _ _ _ hPD hS (lv_sub hl [2, 1, 0] rfl)
abbrev rmX10_count : Room := { frames := 3, cells := 0, slots := 0, locals := 65 }
set_option maxRecDepth 100000 in
set_option maxHeartbeats 4000000 in
theorem kt_X10_count (l : Launch) (G : Gp) (h0 : Nat) (a0 : Nat → Nat) (f0 : Nat → Int32) (A0 : Nat → Nat → Int32) (p1 : Int32) : ∀ {r : Int32}, f10_count f0 A0 p1 = some r → CtrI l yX10_count cX10_count 2 (some .int) rmX10_count G [.ref h0, .int p1] (wX10 G h0 a0 f0 A0) r (wX10 G h0 a0 f0 A0) := by
  intro res h
  refine ctrI_of (cc := cX10_count) (maxL := 2) (ret := (some .int)) (by decide +kernel) rfl (Nat.le_of_ble_eq_true rfl) (fun p e s m below meth c DA C0 hP hD ls hl => ?_)
  have hPD : WD G DA (wX10 G h0 a0 f0 A0) s.heap := ⟨hP, hD⟩
  have hS : va_S DA s.heap s.heap [] := va_S.rf
  have hl : lv_has ls 2 [(0, .ref h0), (1, .int p1)] := hl
  obtain ⟨hx, hb, hml, hown, hts⟩ := C0.1
  have hK := C0.2.2.2.1
  unfold f10_count at h
  refine lv_iload_n hx hb dX10_count_0 rfl (lv_at hl 1 rfl) ?_
  by_cases cc0 : p1 = 0
  · have h := (if_pos cc0).symm.trans h
    refine lv_swT (tgt := 52) (k := 0) hx hb dX10_count_1 cc0 (by decide) (by decide) ?_
    refine lv_aload_n hx hb dX10_count_52 rfl (lv_at hl 0 rfl) ?_
    refine va_get (D := G.1) (ci := 10) (v := .ref (a0 0)) (C := RX10) (T := TX10) (N := 52) hx hb hts inlX10 hown hK hPD.1 0 rfl rfl 0 (by decide) (hts _ gw_539) (fun _ h9 => h9) rfl dX10_count_53 ?_
    refine lv_bipush (v := 74) hx hb dX10_count_56 (by decide) ?_
    refine va_iald hx hb hK hPD.1 1 1 rfl rfl (vin rfl) dX10_count_58 ?_
    obtain rfl := Option.some.inj h
    exact eI C0 hPD.1 hPD.2 hS rfl dX10_count_59
  have h := (if_neg cc0).symm.trans h
  by_cases cc1 : p1 = 1
  · have h := (if_pos cc1).symm.trans h
    refine lv_swT (tgt := 60) (k := 1) hx hb dX10_count_1 cc1 (by decide) (by decide) ?_
    refine lv_aload_n hx hb dX10_count_60 rfl (lv_at hl 0 rfl) ?_
    refine va_get (D := G.1) (ci := 10) (v := .ref (a0 0)) (C := RX10) (T := TX10) (N := 52) hx hb hts inlX10 hown hK hPD.1 0 rfl rfl 0 (by decide) (hts _ gw_539) (fun _ h9 => h9) rfl dX10_count_61 ?_
    refine lv_bipush (v := 73) hx hb dX10_count_64 (by decide) ?_
    refine va_iald hx hb hK hPD.1 1 1 rfl rfl (vin rfl) dX10_count_66 ?_
    obtain rfl := Option.some.inj h
    exact eI C0 hPD.1 hPD.2 hS rfl dX10_count_67
  have h := (if_neg cc1).symm.trans h
  by_cases cc2 : p1 = 2
  · have h := (if_pos cc2).symm.trans h
    refine lv_swT (tgt := 68) (k := 2) hx hb dX10_count_1 cc2 (by decide) (by decide) ?_
    refine lv_aload_n hx hb dX10_count_68 rfl (lv_at hl 0 rfl) ?_
    refine va_get (D := G.1) (ci := 10) (v := .ref (a0 0)) (C := RX10) (T := TX10) (N := 52) hx hb hts inlX10 hown hK hPD.1 0 rfl rfl 0 (by decide) (hts _ gw_539) (fun _ h9 => h9) rfl dX10_count_69 ?_
    refine lv_bipush (v := 72) hx hb dX10_count_72 (by decide) ?_
    refine va_iald hx hb hK hPD.1 1 1 rfl rfl (vin rfl) dX10_count_74 ?_
    obtain rfl := Option.some.inj h
    exact eI C0 hPD.1 hPD.2 hS rfl dX10_count_75
  have h := (if_neg cc2).symm.trans h
  by_cases cc3 : p1 = 3
  · have h := (if_pos cc3).symm.trans h
    refine lv_swT (tgt := 76) (k := 3) hx hb dX10_count_1 cc3 (by decide) (by decide) ?_
    refine lv_aload_n hx hb dX10_count_76 rfl (lv_at hl 0 rfl) ?_
    refine va_get (D := G.1) (ci := 10) (v := .int (f0 6)) (C := RX10) (T := TX10) (N := 52) hx hb hts inlX10 hown hK hPD.1 0 rfl rfl 6 (by decide) (hts _ gw_535) (fun _ h9 => h9) rfl dX10_count_77 ?_
    obtain rfl := Option.some.inj h
    exact eI C0 hPD.1 hPD.2 hS rfl dX10_count_80
  have h := (if_neg cc3).symm.trans h
  by_cases cc4 : p1 = 4
  · have h := (if_pos cc4).symm.trans h
    refine lv_swT (tgt := 81) (k := 4) hx hb dX10_count_1 cc4 (by decide) (by decide) ?_
    refine lv_aload_n hx hb dX10_count_81 rfl (lv_at hl 0 rfl) ?_
    obtain ⟨q_1, hq_1, h⟩ := ob2 h
    refine kVI (As := []) (rest := []) C0 (kt_X10_menSet l G h0 a0 f0 A0 hq_1) gi_V_X10_389_X10_menSet (n := 0) rfl (by decide +kernel) rfl ⟨rfl, rfl, Nat.le_of_ble_eq_true rfl, Nat.le_of_ble_eq_true rfl⟩ hPD hS 0 10 rfl rfl rfl [0, 1, 2, 3, 4, 5, 6, 7, 8, 9, 10, 11, 12, 13, 14, 15, 16, 17, 18, 19, 20, 21, 22, 23, 24, 25, 26, 27, 28, 29, 30, 31, 32, 33] [] [0, 1, 2, 3, 4, 5, 6, 7, 8, 9, 10, 11, 12, 13, 14, 15, 16, 17, 18, 19, 20, 21, 22, 23, 24, 25, 26, 27, 28, 29, 30, 31, 32, 33] (wN := (wX10 G h0 a0 f0 A0)) rfl rfl rfl rfl rfl hl.1 (Nat.le_of_ble_eq_true rfl) dX10_count_82 (fun H locs hPD hS => ?_)
    obtain rfl := Option.some.inj h
    exact eI C0 hPD.1 hPD.2 hS rfl dX10_count_85
  have h := (if_neg cc4).symm.trans h
  by_cases cc5 : p1 = 5
  · have h := (if_pos cc5).symm.trans h
    refine lv_swT (tgt := 86) (k := 5) hx hb dX10_count_1 cc5 (by decide) (by decide) ?_
    refine lv_aload_n hx hb dX10_count_86 rfl (lv_at hl 0 rfl) ?_
    obtain ⟨q_2, hq_2, h⟩ := ob2 h
    refine kVI (As := []) (rest := []) C0 (kt_X10_wages l G h0 a0 f0 A0 hq_2) gi_V_X10_392_X10_wages (n := 0) rfl (by decide +kernel) rfl ⟨rfl, rfl, Nat.le_of_ble_eq_true rfl, Nat.le_of_ble_eq_true rfl⟩ hPD hS 0 10 rfl rfl rfl [0, 1, 2, 3, 4, 5, 6, 7, 8, 9, 10, 11, 12, 13, 14, 15, 16, 17, 18, 19, 20, 21, 22, 23, 24, 25, 26, 27, 28, 29, 30, 31, 32, 33] [] [0, 1, 2, 3, 4, 5, 6, 7, 8, 9, 10, 11, 12, 13, 14, 15, 16, 17, 18, 19, 20, 21, 22, 23, 24, 25, 26, 27, 28, 29, 30, 31, 32, 33] (wN := (wX10 G h0 a0 f0 A0)) rfl rfl rfl rfl rfl hl.1 (Nat.le_of_ble_eq_true rfl) dX10_count_87 (fun H locs hPD hS => ?_)
    obtain rfl := Option.some.inj h
    exact eI C0 hPD.1 hPD.2 hS rfl dX10_count_90
  have h := (if_neg cc5).symm.trans h
  by_cases cc6 : p1 = 6
  · have h := (if_pos cc6).symm.trans h
    refine lv_swT (tgt := 91) (k := 6) hx hb dX10_count_1 cc6 (by decide) (by decide) ?_
    refine lv_aload_n hx hb dX10_count_91 rfl (lv_at hl 0 rfl) ?_
    refine va_get (D := G.1) (ci := 10) (v := .int (f0 17)) (C := RX10) (T := TX10) (N := 52) hx hb hts inlX10 hown hK hPD.1 0 rfl rfl 17 (by decide) (hts _ gw_647) (fun _ h9 => h9) rfl dX10_count_92 ?_
    obtain rfl := Option.some.inj h
    exact eI C0 hPD.1 hPD.2 hS rfl dX10_count_95
  have h := (if_neg cc6).symm.trans h
  by_cases cc7 : p1 = 7
  · have h := (if_pos cc7).symm.trans h
    refine lv_swT (tgt := 96) (k := 7) hx hb dX10_count_1 cc7 (by decide) (by decide) ?_
    refine lv_aload_n hx hb dX10_count_96 rfl (lv_at hl 0 rfl) ?_
    refine va_get (D := G.1) (ci := 10) (v := .int (f0 8)) (C := RX10) (T := TX10) (N := 52) hx hb hts inlX10 hown hK hPD.1 0 rfl rfl 8 (by decide) (hts _ gw_549) (fun _ h9 => h9) rfl dX10_count_97 ?_
    obtain rfl := Option.some.inj h
    exact eI C0 hPD.1 hPD.2 hS rfl dX10_count_100
  have h := (if_neg cc7).symm.trans h
  by_cases cc8 : p1 = 8
  · have h := (if_pos cc8).symm.trans h
    refine lv_swT (tgt := 101) (k := 8) hx hb dX10_count_1 cc8 (by decide) (by decide) ?_
    refine lv_aload_n hx hb dX10_count_101 rfl (lv_at hl 0 rfl) ?_
    refine va_get (D := G.1) (ci := 10) (v := .ref (a0 0)) (C := RX10) (T := TX10) (N := 52) hx hb hts inlX10 hown hK hPD.1 0 rfl rfl 0 (by decide) (hts _ gw_539) (fun _ h9 => h9) rfl dX10_count_102 ?_
    refine lv_bipush (v := 75) hx hb dX10_count_105 (by decide) ?_
    refine va_iald hx hb hK hPD.1 1 1 rfl rfl (vin rfl) dX10_count_107 ?_
    obtain rfl := Option.some.inj h
    exact eI C0 hPD.1 hPD.2 hS rfl dX10_count_108
  have h := (if_neg cc8).symm.trans h
  refine lv_swTD (tgt := 109) (ks := [0, 1, 2, 3, 4, 5, 6, 7, 8]) hx hb dX10_count_1 (by decide) (by decide) ⟨cc0, cc1, cc2, cc3, cc4, cc5, cc6, cc7, cc8, trivial⟩ (by decide) ?_
  refine lv_iconst (v := (-1)) hx hb dX10_count_109 (by decide) ?_
  obtain rfl := Option.some.inj h
  exact eI C0 hPD.1 hPD.2 hS rfl dX10_count_110
end WALK
