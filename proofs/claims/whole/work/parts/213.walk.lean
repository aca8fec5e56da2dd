section WALK
variable {p : Program} {l : Launch} {e : Env} {s : State} {m : MethodId} {args : Array Value} {below : List Frame} {meth : Method} {c : Code} {G : Gp} {DA : Nat → Prop}
abbrev rmX10_watches : Room := { frames := 3, cells := 0, slots := 0, locals := 67 }
set_option maxRecDepth 100000 in
set_option maxHeartbeats 4000000 in
theorem ww_f10_watches_b94  (C0 : Cx cX10_watches 5 (some .int) RX10 p s m args meth c G DA) {h0 : Nat} {a0 : Nat → Nat} {f0 : Nat → Int32} {p1 : Int32}   {res : Int32 × (Nat → Nat → Int32)}  : ∀ (A0 : Nat → Nat → Int32) (l3 : Int32) (l4 : Int32), f10_watches_b94 f0 p1  A0 l3 l4 = some res → ∀ (H : Heap) (locs : List Loc) (ls : Array Slot), WD G DA (wX10 G h0 a0 f0 A0) H → va_S DA s.heap H locs → lv_has ls 5 [(0, .ref h0), (1, .int p1), (3, .int l3), (4, .int l4)] → W p l e rmX10_watches s m args below meth c H locs 0 0 (MQ below (QI G DA res.1 (wX10 G h0 a0 f0 res.2)) args s 0 0 DA) (F0 m 94 ls []) := by
  obtain ⟨hx, hb, hml, hown, hts⟩ := C0.1
  have hK := C0.2.2.2.1
  intro A0 l3 l4 h _ _ _ hPD hS hl
  unfold f10_watches_b94 at h
  refine lv_iload_n hx hb dX10_watches_94 rfl (lv_at hl 1 rfl) ?_
  refine lv_bipush (v := 100) hx hb dX10_watches_95 (by decide) ?_
  refine lv_icmp_ne (tgt := 105) hx hb dX10_watches_97 (by decide) (fun cc1 => ?_) (fun cc1 => ?_)
  · have h := (if_neg cc1).symm.trans h
    refine lv_aload_n hx hb dX10_watches_105 rfl (lv_at hl 0 rfl) ?_
    refine va_get (D := G.1) (ci := 10) (v := .ref (a0 48)) (C := RX10) (T := TX10) (N := 52) hx hb hts inlX10 hown hK hPD.1 0 rfl rfl 48 (by decide) (hts _ gw_797) (fun _ h9 => h9) rfl dX10_watches_106 ?_
    refine lv_iload_n hx hb dX10_watches_109 rfl (lv_at hl 2 rfl) ?_
    obtain ⟨hi_1, h⟩ := ob h
    refine va_iald hx hb hK hPD.1 31 1 rfl rfl hi_1 dX10_watches_110 ?_
    obtain rfl := Option.some.inj h
    exact eI C0 hPD.1 hPD.2 hS rfl dX10_watches_111
  · have h := (if_pos cc1).symm.trans h
    refine lv_iload hx hb dX10_watches_100 (lv_at hl 3 rfl) ?_
    refine lv_goto (tgt := 111) hx hb dX10_watches_102 (by decide) ?_
    obtain rfl := Option.some.inj h
    exact eI C0 hPD.1 hPD.2 hS rfl dX10_watches_111
set_option maxRecDepth 100000 in
set_option maxHeartbeats 4000000 in
theorem ww_f10_watches_b71  (C0 : Cx cX10_watches 5 (some .int) RX10 p s m args meth c G DA) {h0 : Nat} {a0 : Nat → Nat} {f0 : Nat → Int32} {p1 : Int32}  {k71 : (Nat → Nat → Int32) → Int32 → Int32 → Int32 → Option (Int32 × (Nat → Nat → Int32))} {res : Int32 × (Nat → Nat → Int32)}  (hk71 : ∀ (A0 : Nat → Nat → Int32) (l2 : Int32) (l3 : Int32) (l4 : Int32), k71 A0 l2 l3 l4 = some res → ∀ (H : Heap) (locs : List Loc) (ls : Array Slot), WD G DA (wX10 G h0 a0 f0 A0) H → va_S DA s.heap H locs → lv_has ls 5 [(0, .ref h0), (1, .int p1), (2, .int l2), (3, .int l3), (4, .int l4)] → W p l e rmX10_watches s m args below meth c H locs 0 0 (MQ below (QI G DA res.1 (wX10 G h0 a0 f0 res.2)) args s 0 0 DA) (F0 m 71 ls [])) : ∀ (A0 : Nat → Nat → Int32) (l2 : Int32) (l3 : Int32) (l4 : Int32), f10_watches_b71 f0 p1  k71 A0 l2 l3 l4 = some res → ∀ (H : Heap) (locs : List Loc) (ls : Array Slot), WD G DA (wX10 G h0 a0 f0 A0) H → va_S DA s.heap H locs → lv_has ls 5 [(0, .ref h0), (1, .int p1), (2, .int l2), (3, .int l3), (4, .int l4)] → W p l e rmX10_watches s m args below meth c H locs 0 0 (MQ below (QI G DA res.1 (wX10 G h0 a0 f0 res.2)) args s 0 0 DA) (F0 m 71 ls []) := by
  obtain ⟨hx, hb, hml, hown, hts⟩ := C0.1
  have hK := C0.2.2.2.1
  intro A0 l2 l3 l4 h _ _ _ hPD hS hl
  unfold f10_watches_b71 at h
  refine lv_iload_n hx hb dX10_watches_71 rfl (lv_at hl 2 rfl) ?_
  refine lv_if_le (tgt := 94) hx hb dX10_watches_72 (by decide) (fun cc1 => ?_) (fun cc1 => ?_)
  · have h := (if_pos cc1).symm.trans h
    exact ww_f10_watches_b94 C0 A0 l3 l4 h _ _ _ hPD hS (lv_sub hl [0, 1, 3, 4] rfl)
  · have h := (if_neg cc1).symm.trans h
    refine lv_aload_n hx hb dX10_watches_75 rfl (lv_at hl 0 rfl) ?_
    refine lv_iload_n hx hb dX10_watches_76 rfl (lv_at hl 2 rfl) ?_
    refine lv_iload hx hb dX10_watches_77 (lv_at hl 4 rfl) ?_
    obtain ⟨q_2, hq_2, h⟩ := ob2 h
    refine kVI (As := [.int l2, .int l4]) (rest := []) C0 (kt_X10_laysWatches l G h0 a0 f0 A0 l2 l4 hq_2) gi_V_X10_356_X10_laysWatches (n := 2) rfl (by decide +kernel) rfl ⟨rfl, rfl, Nat.le_of_ble_eq_true rfl, Nat.le_of_ble_eq_true rfl⟩ hPD hS 0 10 rfl rfl rfl [0, 1, 2, 3, 4, 5, 6, 7, 8, 9, 10, 11, 12, 13, 14, 15, 16, 17, 18, 19, 20, 21, 22, 23, 24, 25, 26, 27, 28, 29, 30, 31, 32, 33] [] [0, 1, 2, 3, 4, 5, 6, 7, 8, 9, 10, 11, 12, 13, 14, 15, 16, 17, 18, 19, 20, 21, 22, 23, 24, 25, 26, 27, 28, 29, 30, 31, 32, 33] (wN := (wX10 G h0 a0 f0 q_2.2)) rfl rfl rfl rfl rfl hl.1 (Nat.le_of_ble_eq_true rfl) dX10_watches_79 (fun H locs hPD hS => ?_)
    refine lv_if_ne (tgt := 94) hx hb dX10_watches_82 (by decide) (fun cc1 => ?_) (fun cc1 => ?_)
    · have h := (if_neg cc1).symm.trans h
      exact ww_f10_watches_b94 C0 q_2.2 l3 l4 h _ _ _ hPD hS (lv_sub hl [0, 1, 3, 4] rfl)
    · have h := (if_pos cc1).symm.trans h
      refine lv_iload hx hb dX10_watches_85 (lv_at hl 4 rfl) ?_
      refine lv_iconst (v := 1) hx hb dX10_watches_87 (by decide) ?_
      refine lv_iadd hx hb dX10_watches_88 ?_
      refine lv_istore (lv' := [(4, .int (l4 + 1)), (0, .ref h0), (1, .int p1), (2, .int l2), (3, .int l3)]) hx hb dX10_watches_89 hl (by decide) rfl (fun ls hl => ?_)
      refine lv_goto (tgt := 71) hx hb dX10_watches_91 (by decide) ?_
      exact hk71 q_2.2 l2 l3 (l4 + 1) h _ _ _ hPD hS (lv_sub hl [1, 2, 3, 4, 0] rfl)
set_option maxRecDepth 100000 in
set_option maxHeartbeats 4000000 in
theorem ww_f10_watches_l71  (C0 : Cx cX10_watches 5 (some .int) RX10 p s m args meth c G DA) {h0 : Nat} {a0 : Nat → Nat} {f0 : Nat → Int32} {p1 : Int32}   {res : Int32 × (Nat → Nat → Int32)}  : ∀ (n : Nat) (A0 : Nat → Nat → Int32) (l2 : Int32) (l3 : Int32) (l4 : Int32), f10_watches_l71 f0 p1  n A0 l2 l3 l4 = some res → ∀ (H : Heap) (locs : List Loc) (ls : Array Slot), WD G DA (wX10 G h0 a0 f0 A0) H → va_S DA s.heap H locs → lv_has ls 5 [(0, .ref h0), (1, .int p1), (2, .int l2), (3, .int l3), (4, .int l4)] → W p l e rmX10_watches s m args below meth c H locs 0 0 (MQ below (QI G DA res.1 (wX10 G h0 a0 f0 res.2)) args s 0 0 DA) (F0 m 71 ls []) := by
  intro n
  induction n with
  | zero => intro A0 l2 l3 l4 h; cases h
  | succ n ih => intro A0 l2 l3 l4 h; exact ww_f10_watches_b71 C0  ih A0 l2 l3 l4 h
set_option maxRecDepth 100000 in
set_option maxHeartbeats 4000000 in
theorem ww_f10_watches_b50  (C0 : Cx cX10_watches 5 (some .int) RX10 p s m args meth c G DA) {h0 : Nat} {a0 : Nat → Nat} {f0 : Nat → Int32} {p1 : Int32}  {k23 : (Nat → Nat → Int32) → Int32 → Int32 → Int32 → Option (Int32 × (Nat → Nat → Int32))} {res : Int32 × (Nat → Nat → Int32)} (hk23 : ∀ (A0 : Nat → Nat → Int32) (l2 : Int32) (l3 : Int32) (l4 : Int32), k23 A0 l2 l3 l4 = some res → ∀ (H : Heap) (locs : List Loc) (ls : Array Slot), WD G DA (wX10 G h0 a0 f0 A0) H → va_S DA s.heap H locs → lv_has ls 5 [(0, .ref h0), (1, .int p1), (2, .int l2), (3, .int l3), (4, .int l4)] → W p l e rmX10_watches s m args below meth c H locs 0 0 (MQ below (QI G DA res.1 (wX10 G h0 a0 f0 res.2)) args s 0 0 DA) (F0 m 23 ls [])) : ∀ (A0 : Nat → Nat → Int32) (l2 : Int32) (l3 : Int32) (l4 : Int32), f10_watches_b50 f0 p1 k23 A0 l2 l3 l4 = some res → ∀ (H : Heap) (locs : List Loc) (ls : Array Slot), WD G DA (wX10 G h0 a0 f0 A0) H → va_S DA s.heap H locs → lv_has ls 5 [(0, .ref h0), (1, .int p1), (2, .int l2), (3, .int l3), (4, .int l4)] → W p l e rmX10_watches s m args below meth c H locs 0 0 (MQ below (QI G DA res.1 (wX10 G h0 a0 f0 res.2)) args s 0 0 DA) (F0 m 50 ls []) := by
  obtain ⟨hx, hb, hml, hown, hts⟩ := C0.1
  have hK := C0.2.2.2.1
  intro A0 l2 l3 l4 h _ _ _ hPD hS hl
  unfold f10_watches_b50 at h
  refine lv_aload_n hx hb dX10_watches_50 rfl (lv_at hl 0 rfl) ?_
  refine va_get (D := G.1) (ci := 10) (v := .ref (a0 49)) (C := RX10) (T := TX10) (N := 52) hx hb hts inlX10 hown hK hPD.1 0 rfl rfl 49 (by decide) (hts _ gw_798) (fun _ h9 => h9) rfl dX10_watches_51 ?_
  refine lv_iload_n hx hb dX10_watches_54 rfl (lv_at hl 2 rfl) ?_
  refine lv_iload hx hb dX10_watches_55 (lv_at hl 4 rfl) ?_
  obtain ⟨hi_3, h⟩ := ob h
  refine va_iast hx hb hK hPD.1 hPD.2 hS 32 1 rfl rfl hi_3 dX10_watches_57 (fun H locs hP hD hS => ?_)
  obtain ⟨A0_4, eA0_4, h⟩ := lvl h
  have hPD : WD G DA (wX10 G h0 a0 f0 A0_4) H := by rw [eA0_4]; exact ⟨hP, hD⟩
  clear eA0_4 hP hD
  refine lv_iload_n hx hb dX10_watches_58 rfl (lv_at hl 2 rfl) ?_
  refine lv_iconst (v := 1) hx hb dX10_watches_59 (by decide) ?_
  refine lv_iadd hx hb dX10_watches_60 ?_
  refine lv_istore_n (lv' := [(2, .int (l2 + 1)), (0, .ref h0), (1, .int p1), (3, .int l3), (4, .int l4)]) hx hb dX10_watches_61 rfl hl (by decide) rfl (fun ls hl => ?_)
  refine lv_iinc (v := l4 + 1) (lv' := [(4, .int (l4 + 1)), (2, .int (l2 + 1)), (0, .ref h0), (1, .int p1), (3, .int l3)]) hx hb dX10_watches_62 hl (k := 4) rfl rfl (by decide) rfl (fun ls hl => ?_)
  refine lv_goto (tgt := 23) hx hb dX10_watches_65 (by decide) ?_
  exact hk23 A0_4 (l2 + 1) l3 (l4 + 1) h _ _ _ hPD hS (lv_sub hl [2, 3, 1, 4, 0] rfl)
set_option maxRecDepth 100000 in
set_option maxHeartbeats 4000000 in
theorem ww_f10_watches_b23  (C0 : Cx cX10_watches 5 (some .int) RX10 p s m args meth c G DA) {h0 : Nat} {a0 : Nat → Nat} {f0 : Nat → Int32} {p1 : Int32}  {k23 : (Nat → Nat → Int32) → Int32 → Int32 → Int32 → Option (Int32 × (Nat → Nat → Int32))} {res : Int32 × (Nat → Nat → Int32)}  (hk23 : ∀ (A0 : Nat → Nat → Int32) (l2 : Int32) (l3 : Int32) (l4 : Int32), k23 A0 l2 l3 l4 = some res → ∀ (H : Heap) (locs : List Loc) (ls : Array Slot), WD G DA (wX10 G h0 a0 f0 A0) H → va_S DA s.heap H locs → lv_has ls 5 [(0, .ref h0), (1, .int p1), (2, .int l2), (3, .int l3), (4, .int l4)] → W p l e rmX10_watches s m args below meth c H locs 0 0 (MQ below (QI G DA res.1 (wX10 G h0 a0 f0 res.2)) args s 0 0 DA) (F0 m 23 ls [])) : ∀ (A0 : Nat → Nat → Int32) (l2 : Int32) (l3 : Int32) (l4 : Int32), f10_watches_b23 f0 p1  k23 A0 l2 l3 l4 = some res → ∀ (H : Heap) (locs : List Loc) (ls : Array Slot), WD G DA (wX10 G h0 a0 f0 A0) H → va_S DA s.heap H locs → lv_has ls 5 [(0, .ref h0), (1, .int p1), (2, .int l2), (3, .int l3), (4, .int l4)] → W p l e rmX10_watches s m args below meth c H locs 0 0 (MQ below (QI G DA res.1 (wX10 G h0 a0 f0 res.2)) args s 0 0 DA) (F0 m 23 ls []) := by
  obtain ⟨hx, hb, hml, hown, hts⟩ := C0.1
  have hK := C0.2.2.2.1
  intro A0 l2 l3 l4 h _ _ _ hPD hS hl
  unfold f10_watches_b23 at h
  refine lv_iload hx hb dX10_watches_23 (lv_at hl 4 rfl) ?_
  refine lv_bipush (v := 16) hx hb dX10_watches_25 (by decide) ?_
  refine lv_icmp_ge (tgt := 68) hx hb dX10_watches_27 (by decide) (fun cc1 => ?_) (fun cc1 => ?_)
  · have h := (if_pos cc1).symm.trans h
    refine lv_iconst (v := 0) hx hb dX10_watches_68 (by decide) ?_
    refine lv_istore (lv' := [(4, .int 0), (0, .ref h0), (1, .int p1), (2, .int l2), (3, .int l3)]) hx hb dX10_watches_69 hl (by decide) rfl (fun ls hl => ?_)
    exact ww_f10_watches_l71 C0 NF A0 l2 l3 0 h _ _ _ hPD hS (lv_sub hl [1, 2, 3, 4, 0] rfl)
  · have h := (if_neg cc1).symm.trans h
    refine lv_aload_n hx hb dX10_watches_30 rfl (lv_at hl 0 rfl) ?_
    refine lv_iload hx hb dX10_watches_31 (lv_at hl 4 rfl) ?_
    refine kVI (As := [.int l4]) (rest := []) C0 (kt_X10_isTold l G h0 a0 f0 A0 l4) gi_V_X10_128_X10_isTold (n := 1) rfl (by decide +kernel) rfl ⟨rfl, rfl, Nat.le_of_ble_eq_true rfl, Nat.le_of_ble_eq_true rfl⟩ hPD hS 0 10 rfl rfl rfl [0, 1, 2, 3, 4, 5, 6, 7, 8, 9, 10, 11, 12, 13, 14, 15, 16, 17, 18, 19, 20, 21, 22, 23, 24, 25, 26, 27, 28, 29, 30, 31, 32, 33] [] [0, 1, 2, 3, 4, 5, 6, 7, 8, 9, 10, 11, 12, 13, 14, 15, 16, 17, 18, 19, 20, 21, 22, 23, 24, 25, 26, 27, 28, 29, 30, 31, 32, 33] (wN := (wX10 G h0 a0 f0 A0)) rfl rfl rfl rfl rfl hl.1 (Nat.le_of_ble_eq_true rfl) dX10_watches_33 (fun H locs hPD hS => ?_)
    refine lv_if_ne (tgt := 42) hx hb dX10_watches_36 (by decide) (fun cc1 => ?_) (fun cc1 => ?_)
    · have h := (if_neg cc1).symm.trans h
      refine lv_iload hx hb dX10_watches_42 (lv_at hl 4 rfl) ?_
      refine lv_iload_n hx hb dX10_watches_44 rfl (lv_at hl 1 rfl) ?_
      refine lv_icmp_ne (tgt := 50) hx hb dX10_watches_45 (by decide) (fun cc1 => ?_) (fun cc1 => ?_)
      · have h := (if_neg cc1).symm.trans h
        exact ww_f10_watches_b50 C0 hk23 A0 l2 l3 l4 h _ _ _ hPD hS (lv_sub hl [0, 1, 2, 3, 4] rfl)
      · have h := (if_pos cc1).symm.trans h
        refine lv_iload_n hx hb dX10_watches_48 rfl (lv_at hl 2 rfl) ?_
        refine lv_istore_n (lv' := [(3, .int l2), (0, .ref h0), (1, .int p1), (2, .int l2), (4, .int l4)]) hx hb dX10_watches_49 rfl hl (by decide) rfl (fun ls hl => ?_)
        exact ww_f10_watches_b50 C0 hk23 A0 l2 l2 l4 h _ _ _ hPD hS (lv_sub hl [1, 2, 3, 0, 4] rfl)
    · have h := (if_pos cc1).symm.trans h
      refine lv_goto (tgt := 62) hx hb dX10_watches_39 (by decide) ?_
      refine lv_iinc (v := l4 + 1) (lv' := [(4, .int (l4 + 1)), (0, .ref h0), (1, .int p1), (2, .int l2), (3, .int l3)]) hx hb dX10_watches_62 hl (k := 4) rfl rfl (by decide) rfl (fun ls hl => ?_)
      refine lv_goto (tgt := 23) hx hb dX10_watches_65 (by decide) ?_
      exact hk23 A0 l2 l3 (l4 + 1) h _ _ _ hPD hS (lv_sub hl [1, 2, 3, 4, 0] rfl)
set_option maxRecDepth 100000 in
set_option maxHeartbeats 4000000 in
theorem ww_f10_watches_l23  (C0 : Cx cX10_watches 5 (some .int) RX10 p s m args meth c G DA) {h0 : Nat} {a0 : Nat → Nat} {f0 : Nat → Int32} {p1 : Int32}   {res : Int32 × (Nat → Nat → Int32)}  : ∀ (n : Nat) (A0 : Nat → Nat → Int32) (l2 : Int32) (l3 : Int32) (l4 : Int32), f10_watches_l23 f0 p1  n A0 l2 l3 l4 = some res → ∀ (H : Heap) (locs : List Loc) (ls : Array Slot), WD G DA (wX10 G h0 a0 f0 A0) H → va_S DA s.heap H locs → lv_has ls 5 [(0, .ref h0), (1, .int p1), (2, .int l2), (3, .int l3), (4, .int l4)] → W p l e rmX10_watches s m args below meth c H locs 0 0 (MQ below (QI G DA res.1 (wX10 G h0 a0 f0 res.2)) args s 0 0 DA) (F0 m 23 ls []) := by
  intro n
  induction n with
  | zero => intro A0 l2 l3 l4 h; cases h
  | succ n ih => intro A0 l2 l3 l4 h; exact ww_f10_watches_b23 C0  ih A0 l2 l3 l4 h
set_option maxRecDepth 100000 in
set_option maxHeartbeats 4000000 in
theorem kt_X10_watches (l : Launch) (G : Gp) (h0 : Nat) (a0 : Nat → Nat) (f0 : Nat → Int32) (A0 : Nat → Nat → Int32) (p1 : Int32) : ∀ {r : Int32 × (Nat → Nat → Int32)}, f10_watches f0 A0 p1 = some r → CtrI l yX10_watches cX10_watches 5 (some .int) rmX10_watches G [.ref h0, .int p1] (wX10 G h0 a0 f0 A0) r.1 (wX10 G h0 a0 f0 r.2) := by
  intro res h
  refine ctrI_of (cc := cX10_watches) (maxL := 5) (ret := (some .int)) (by decide +kernel) rfl (Nat.le_of_ble_eq_true rfl) (fun p e s m below meth c DA C0 hP hD ls hl => ?_)
  have hPD : WD G DA (wX10 G h0 a0 f0 A0) s.heap := ⟨hP, hD⟩
  have hS : va_S DA s.heap s.heap [] := va_S.rf
  have hl : lv_has ls 5 [(0, .ref h0), (1, .int p1)] := hl
  obtain ⟨hx, hb, hml, hown, hts⟩ := C0.1
  have hK := C0.2.2.2.1
  unfold f10_watches at h
  refine lv_iload_n hx hb dX10_watches_0 rfl (lv_at hl 1 rfl) ?_
  refine lv_bipush (v := 100) hx hb dX10_watches_1 (by decide) ?_
  refine lv_icmp_eq (tgt := 16) hx hb dX10_watches_3 (by decide) (fun cc1 => ?_) (fun cc1 => ?_)
  · have h := (if_pos cc1).symm.trans h
    refine lv_iconst (v := 0) hx hb dX10_watches_16 (by decide) ?_
    refine lv_istore_n (lv' := [(2, .int 0), (0, .ref h0), (1, .int p1)]) hx hb dX10_watches_17 rfl hl (by decide) rfl (fun ls hl => ?_)
    refine lv_iconst (v := (-1)) hx hb dX10_watches_18 (by decide) ?_
    refine lv_istore_n (lv' := [(3, .int (-1)), (2, .int 0), (0, .ref h0), (1, .int p1)]) hx hb dX10_watches_19 rfl hl (by decide) rfl (fun ls hl => ?_)
    refine lv_iconst (v := 0) hx hb dX10_watches_20 (by decide) ?_
    refine lv_istore (lv' := [(4, .int 0), (3, .int (-1)), (2, .int 0), (0, .ref h0), (1, .int p1)]) hx hb dX10_watches_21 hl (by decide) rfl (fun ls hl => ?_)
    exact ww_f10_watches_l23 C0 NF A0 0 (-1) 0 h _ _ _ hPD hS (lv_sub hl [3, 4, 2, 1, 0] rfl)
  · have h := (if_neg cc1).symm.trans h
    refine lv_aload_n hx hb dX10_watches_6 rfl (lv_at hl 0 rfl) ?_
    refine lv_iload_n hx hb dX10_watches_7 rfl (lv_at hl 1 rfl) ?_
    refine kVI (As := [.int p1]) (rest := []) C0 (kt_X10_isTold l G h0 a0 f0 A0 p1) gi_V_X10_128_X10_isTold (n := 1) rfl (by decide +kernel) rfl ⟨rfl, rfl, Nat.le_of_ble_eq_true rfl, Nat.le_of_ble_eq_true rfl⟩ hPD hS 0 10 rfl rfl rfl [0, 1, 2, 3, 4, 5, 6, 7, 8, 9, 10, 11, 12, 13, 14, 15, 16, 17, 18, 19, 20, 21, 22, 23, 24, 25, 26, 27, 28, 29, 30, 31, 32, 33] [] [0, 1, 2, 3, 4, 5, 6, 7, 8, 9, 10, 11, 12, 13, 14, 15, 16, 17, 18, 19, 20, 21, 22, 23, 24, 25, 26, 27, 28, 29, 30, 31, 32, 33] (wN := (wX10 G h0 a0 f0 A0)) rfl rfl rfl rfl rfl hl.1 (Nat.le_of_ble_eq_true rfl) dX10_watches_8 (fun H locs hPD hS => ?_)
    refine lv_if_ne (tgt := 16) hx hb dX10_watches_11 (by decide) (fun cc1 => ?_) (fun cc1 => ?_)
    · have h := (if_neg cc1).symm.trans h
      refine lv_iconst (v := 0) hx hb dX10_watches_16 (by decide) ?_
      refine lv_istore_n (lv' := [(2, .int 0), (0, .ref h0), (1, .int p1)]) hx hb dX10_watches_17 rfl hl (by decide) rfl (fun ls hl => ?_)
      refine lv_iconst (v := (-1)) hx hb dX10_watches_18 (by decide) ?_
      refine lv_istore_n (lv' := [(3, .int (-1)), (2, .int 0), (0, .ref h0), (1, .int p1)]) hx hb dX10_watches_19 rfl hl (by decide) rfl (fun ls hl => ?_)
      refine lv_iconst (v := 0) hx hb dX10_watches_20 (by decide) ?_
      refine lv_istore (lv' := [(4, .int 0), (3, .int (-1)), (2, .int 0), (0, .ref h0), (1, .int p1)]) hx hb dX10_watches_21 hl (by decide) rfl (fun ls hl => ?_)
      exact ww_f10_watches_l23 C0 NF A0 0 (-1) 0 h _ _ _ hPD hS (lv_sub hl [3, 4, 2, 1, 0] rfl)
    · have h := (if_pos cc1).symm.trans h
      refine lv_iconst (v := (-1)) hx hb dX10_watches_14 (by decide) ?_
      obtain rfl := Option.some.inj h
      exact eI C0 hPD.1 hPD.2 hS rfl dX10_watches_15
abbrev rmX10_way : Room := { frames := 2, cells := 0, slots := 0, locals := 46 }
set_option maxRecDepth 100000 in
set_option maxHeartbeats 4000000 in
theorem ww_f10_way_b89  (C0 : Cx cX10_way 8 (some .int) RX10 p s m args meth c G DA) {h0 : Nat} {a0 : Nat → Nat} {f0 : Nat → Int32} {p1 : Int32} {p2 : Int32} {p3 : Int32}  {k80 : (Nat → Nat → Int32) → Int32 → Int32 → Option (Int32 × (Nat → Nat → Int32))} {k89 : (Nat → Nat → Int32) → Int32 → Int32 → Int32 → Option (Int32 × (Nat → Nat → Int32))} {res : Int32 × (Nat → Nat → Int32)} (hk80 : ∀ (A0 : Nat → Nat → Int32) (l5 : Int32) (l6 : Int32), k80 A0 l5 l6 = some res → ∀ (H : Heap) (locs : List Loc) (ls : Array Slot), WD G DA (wX10 G h0 a0 f0 A0) H → va_S DA s.heap H locs → lv_has ls 8 [(0, .ref h0), (1, .int p1), (2, .int p2), (3, .int p3), (5, .int l5), (6, .int l6)] → W p l e rmX10_way s m args below meth c H locs 0 0 (MQ below (QI G DA res.1 (wX10 G h0 a0 f0 res.2)) args s 0 0 DA) (F0 m 80 ls [])) (hk89 : ∀ (A0 : Nat → Nat → Int32) (l5 : Int32) (l6 : Int32) (l7 : Int32), k89 A0 l5 l6 l7 = some res → ∀ (H : Heap) (locs : List Loc) (ls : Array Slot), WD G DA (wX10 G h0 a0 f0 A0) H → va_S DA s.heap H locs → lv_has ls 8 [(0, .ref h0), (1, .int p1), (2, .int p2), (3, .int p3), (5, .int l5), (6, .int l6), (7, .int l7)] → W p l e rmX10_way s m args below meth c H locs 0 0 (MQ below (QI G DA res.1 (wX10 G h0 a0 f0 res.2)) args s 0 0 DA) (F0 m 89 ls [])) : ∀ (A0 : Nat → Nat → Int32) (l5 : Int32) (l6 : Int32) (l7 : Int32), f10_way_b89 f0 p1 p2 p3 k80 k89 A0 l5 l6 l7 = some res → ∀ (H : Heap) (locs : List Loc) (ls : Array Slot), WD G DA (wX10 G h0 a0 f0 A0) H → va_S DA s.heap H locs → lv_has ls 8 [(0, .ref h0), (1, .int p1), (2, .int p2), (3, .int p3), (5, .int l5), (6, .int l6), (7, .int l7)] → W p l e rmX10_way s m args below meth c H locs 0 0 (MQ below (QI G DA res.1 (wX10 G h0 a0 f0 res.2)) args s 0 0 DA) (F0 m 89 ls []) := by
  obtain ⟨hx, hb, hml, hown, hts⟩ := C0.1
  have hK := C0.2.2.2.1
  intro A0 l5 l6 l7 h _ _ _ hPD hS hl
  unfold f10_way_b89 at h
  refine lv_aload_n hx hb dX10_way_89 rfl (lv_at hl 0 rfl) ?_
  refine va_get (D := G.1) (ci := 10) (v := .ref (a0 3)) (C := RX10) (T := TX10) (N := 52) hx hb hts inlX10 hown hK hPD.1 0 rfl rfl 3 (by decide) (hts _ gw_666) (fun _ h9 => h9) rfl dX10_way_90 ?_
  refine lv_iload hx hb dX10_way_93 (lv_at hl 4 rfl) ?_
  obtain ⟨hi_3, h⟩ := ob h
  refine va_iald hx hb hK hPD.1 4 1 rfl rfl hi_3 dX10_way_95 ?_
  refine lv_iload hx hb dX10_way_96 (lv_at hl 6 rfl) ?_
  refine kSI (As := [.int (gx (A0 3) l5), .int l7]) (rest := []) C0 (kt_X10_has l G  (gx (A0 3) l5) l7) gi_S_X10_120_X10_has (n := 2) rfl (by decide +kernel) ⟨rfl, rfl, Nat.le_of_ble_eq_true rfl, Nat.le_of_ble_eq_true rfl⟩ hPD hS [] [0, 1, 2, 3, 4, 5, 6, 7, 8, 9, 10, 11, 12, 13, 14, 15, 16, 17, 18, 19, 20, 21, 22, 23, 24, 25, 26, 27, 28, 29, 30, 31, 32, 33] [0, 1, 2, 3, 4, 5, 6, 7, 8, 9, 10, 11, 12, 13, 14, 15, 16, 17, 18, 19, 20, 21, 22, 23, 24, 25, 26, 27, 28, 29, 30, 31, 32, 33] (wN := (wX10 G h0 a0 f0 A0)) rfl rfl rfl rfl rfl hl.1 (Nat.le_of_ble_eq_true rfl) dX10_way_98 (fun H locs hPD hS => ?_)
  refine lv_if_eq (tgt := 123) hx hb dX10_way_101 (by decide) (fun cc1 => ?_) (fun cc1 => ?_)
  · have h := (if_pos cc1).symm.trans h
    refine lv_iload hx hb dX10_way_123 (lv_at hl 6 rfl) ?_
    refine lv_iconst (v := 1) hx hb dX10_way_125 (by decide) ?_
    refine lv_iadd hx hb dX10_way_126 ?_
    refine lv_istore (lv' := [(7, .int (l7 + 1)), (0, .ref h0), (1, .int p1), (2, .int p2), (3, .int p3), (5, .int l5), (6, .int l6)]) hx hb dX10_way_127 hl (by decide) rfl (fun ls hl => ?_)
    refine lv_goto (tgt := 89) hx hb dX10_way_129 (by decide) ?_
    exact hk89 A0 l5 l6 (l7 + 1) h _ _ _ hPD hS (lv_sub hl [1, 2, 3, 4, 5, 6, 0] rfl)
  · have h := (if_neg cc1).symm.trans h
    refine lv_aload_n hx hb dX10_way_104 rfl (lv_at hl 0 rfl) ?_
    refine va_get (D := G.1) (ci := 10) (v := .ref (a0 46)) (C := RX10) (T := TX10) (N := 52) hx hb hts inlX10 hown hK hPD.1 0 rfl rfl 46 (by decide) (hts _ gw_786) (fun _ h9 => h9) rfl dX10_way_105 ?_
    refine lv_iload hx hb dX10_way_108 (lv_at hl 6 rfl) ?_
    obtain ⟨hi_4, h⟩ := ob h
    refine va_iald hx hb hK hPD.1 29 1 rfl rfl hi_4 dX10_way_110 ?_
    refine lv_aload_n hx hb dX10_way_111 rfl (lv_at hl 0 rfl) ?_
    refine va_get (D := G.1) (ci := 10) (v := .ref (a0 46)) (C := RX10) (T := TX10) (N := 52) hx hb hts inlX10 hown hK hPD.1 0 rfl rfl 46 (by decide) (hts _ gw_786) (fun _ h9 => h9) rfl dX10_way_112 ?_
    refine lv_iload hx hb dX10_way_115 (lv_at hl 4 rfl) ?_
    obtain ⟨hi_5, h⟩ := ob h
    refine va_iald hx hb hK hPD.1 29 1 rfl rfl hi_5 dX10_way_117 ?_
    refine lv_iconst (v := 1) hx hb dX10_way_118 (by decide) ?_
    refine lv_isub hx hb dX10_way_119 ?_
    refine lv_icmp_eq (tgt := 132) hx hb dX10_way_120 (by decide) (fun cc1 => ?_) (fun cc1 => ?_)
    · have h := (if_pos cc1).symm.trans h
      refine lv_iload hx hb dX10_way_132 (lv_at hl 6 rfl) ?_
      refine lv_istore (lv' := [(5, .int l7), (0, .ref h0), (1, .int p1), (2, .int p2), (3, .int p3), (6, .int l6), (7, .int l7)]) hx hb dX10_way_134 hl (by decide) rfl (fun ls hl => ?_)
      refine lv_iinc (v := l6 + 1) (lv' := [(6, .int (l6 + 1)), (5, .int l7), (0, .ref h0), (1, .int p1), (2, .int p2), (3, .int p3), (7, .int l7)]) hx hb dX10_way_136 hl (k := 5) rfl rfl (by decide) rfl (fun ls hl => ?_)
      refine lv_goto (tgt := 80) hx hb dX10_way_139 (by decide) ?_
      exact hk80 A0 l7 (l6 + 1) h _ _ _ hPD hS (lv_sub hl [2, 3, 4, 5, 1, 0] rfl)
    · have h := (if_neg cc1).symm.trans h
      refine lv_iload hx hb dX10_way_123 (lv_at hl 6 rfl) ?_
      refine lv_iconst (v := 1) hx hb dX10_way_125 (by decide) ?_
      refine lv_iadd hx hb dX10_way_126 ?_
      refine lv_istore (lv' := [(7, .int (l7 + 1)), (0, .ref h0), (1, .int p1), (2, .int p2), (3, .int p3), (5, .int l5), (6, .int l6)]) hx hb dX10_way_127 hl (by decide) rfl (fun ls hl => ?_)
      refine lv_goto (tgt := 89) hx hb dX10_way_129 (by decide) ?_
      exact hk89 A0 l5 l6 (l7 + 1) h _ _ _ hPD hS (lv_sub hl [1, 2, 3, 4, 5, 6, 0] rfl)
set_option maxRecDepth 100000 in
set_option maxHeartbeats 4000000 in
theorem ww_f10_way_l89  (C0 : Cx cX10_way 8 (some .int) RX10 p s m args meth c G DA) {h0 : Nat} {a0 : Nat → Nat} {f0 : Nat → Int32} {p1 : Int32} {p2 : Int32} {p3 : Int32}  {k80 : (Nat → Nat → Int32) → Int32 → Int32 → Option (Int32 × (Nat → Nat → Int32))} {res : Int32 × (Nat → Nat → Int32)} (hk80 : ∀ (A0 : Nat → Nat → Int32) (l5 : Int32) (l6 : Int32), k80 A0 l5 l6 = some res → ∀ (H : Heap) (locs : List Loc) (ls : Array Slot), WD G DA (wX10 G h0 a0 f0 A0) H → va_S DA s.heap H locs → lv_has ls 8 [(0, .ref h0), (1, .int p1), (2, .int p2), (3, .int p3), (5, .int l5), (6, .int l6)] → W p l e rmX10_way s m args below meth c H locs 0 0 (MQ below (QI G DA res.1 (wX10 G h0 a0 f0 res.2)) args s 0 0 DA) (F0 m 80 ls [])) : ∀ (n : Nat) (A0 : Nat → Nat → Int32) (l5 : Int32) (l6 : Int32) (l7 : Int32), f10_way_l89 f0 p1 p2 p3 k80 n A0 l5 l6 l7 = some res → ∀ (H : Heap) (locs : List Loc) (ls : Array Slot), WD G DA (wX10 G h0 a0 f0 A0) H → va_S DA s.heap H locs → lv_has ls 8 [(0, .ref h0), (1, .int p1), (2, .int p2), (3, .int p3), (5, .int l5), (6, .int l6), (7, .int l7)] → W p l e rmX10_way s m args below meth c H locs 0 0 (MQ below (QI G DA res.1 (wX10 G h0 a0 f0 res.2)) args s 0 0 DA) (F0 m 89 ls []) := by
  intro n
  induction n with
  | zero => intro A0 l5 l6 l7 h; cases h
  | succ n ih => intro A0 l5 l6 l7 h; exact ww_f10_way_b89 C0 hk80 ih A0 l5 l6 l7 h
set_option maxRecDepth 100000 in
set_option maxHeartbeats 4000000 in
theorem ww_f10_way_b80  (C0 : Cx cX10_way 8 (some .int) RX10 p s m args meth c G DA) {h0 : Nat} {a0 : Nat → Nat} {f0 : Nat → Int32} {p1 : Int32} {p2 : Int32} {p3 : Int32}  {k80 : (Nat → Nat → Int32) → Int32 → Int32 → Option (Int32 × (Nat → Nat → Int32))} {res : Int32 × (Nat → Nat → Int32)}  (hk80 : ∀ (A0 : Nat → Nat → Int32) (l5 : Int32) (l6 : Int32), k80 A0 l5 l6 = some res → ∀ (H : Heap) (locs : List Loc) (ls : Array Slot), WD G DA (wX10 G h0 a0 f0 A0) H → va_S DA s.heap H locs → lv_has ls 8 [(0, .ref h0), (1, .int p1), (2, .int p2), (3, .int p3), (5, .int l5), (6, .int l6)] → W p l e rmX10_way s m args below meth c H locs 0 0 (MQ below (QI G DA res.1 (wX10 G h0 a0 f0 res.2)) args s 0 0 DA) (F0 m 80 ls [])) : ∀ (A0 : Nat → Nat → Int32) (l5 : Int32) (l6 : Int32), f10_way_b80 f0 p1 p2 p3  k80 A0 l5 l6 = some res → ∀ (H : Heap) (locs : List Loc) (ls : Array Slot), WD G DA (wX10 G h0 a0 f0 A0) H → va_S DA s.heap H locs → lv_has ls 8 [(0, .ref h0), (1, .int p1), (2, .int p2), (3, .int p3), (5, .int l5), (6, .int l6)] → W p l e rmX10_way s m args below meth c H locs 0 0 (MQ below (QI G DA res.1 (wX10 G h0 a0 f0 res.2)) args s 0 0 DA) (F0 m 80 ls []) := by
  obtain ⟨hx, hb, hml, hown, hts⟩ := C0.1
  have hK := C0.2.2.2.1
  intro A0 l5 l6 h _ _ _ hPD hS hl
  unfold f10_way_b80 at h
  refine lv_iload hx hb dX10_way_80 (lv_at hl 5 rfl) ?_
  refine lv_iload_n hx hb dX10_way_82 rfl (lv_at hl 3 rfl) ?_
  refine lv_icmp_ge (tgt := 142) hx hb dX10_way_83 (by decide) (fun cc1 => ?_) (fun cc1 => ?_)
  · have h := (if_pos cc1).symm.trans h
    refine lv_iload hx hb dX10_way_142 (lv_at hl 4 rfl) ?_
    obtain rfl := Option.some.inj h
    exact eI C0 hPD.1 hPD.2 hS rfl dX10_way_144
  · have h := (if_neg cc1).symm.trans h
    refine lv_iconst (v := 0) hx hb dX10_way_86 (by decide) ?_
    refine lv_istore (lv' := [(7, .int 0), (0, .ref h0), (1, .int p1), (2, .int p2), (3, .int p3), (5, .int l5), (6, .int l6)]) hx hb dX10_way_87 hl (by decide) rfl (fun ls hl => ?_)
    exact ww_f10_way_l89 C0 hk80 NF A0 l5 l6 0 h _ _ _ hPD hS (lv_sub hl [1, 2, 3, 4, 5, 6, 0] rfl)
set_option maxRecDepth 100000 in
set_option maxHeartbeats 4000000 in
theorem ww_f10_way_l80  (C0 : Cx cX10_way 8 (some .int) RX10 p s m args meth c G DA) {h0 : Nat} {a0 : Nat → Nat} {f0 : Nat → Int32} {p1 : Int32} {p2 : Int32} {p3 : Int32}   {res : Int32 × (Nat → Nat → Int32)}  : ∀ (n : Nat) (A0 : Nat → Nat → Int32) (l5 : Int32) (l6 : Int32), f10_way_l80 f0 p1 p2 p3  n A0 l5 l6 = some res → ∀ (H : Heap) (locs : List Loc) (ls : Array Slot), WD G DA (wX10 G h0 a0 f0 A0) H → va_S DA s.heap H locs → lv_has ls 8 [(0, .ref h0), (1, .int p1), (2, .int p2), (3, .int p3), (5, .int l5), (6, .int l6)] → W p l e rmX10_way s m args below meth c H locs 0 0 (MQ below (QI G DA res.1 (wX10 G h0 a0 f0 res.2)) args s 0 0 DA) (F0 m 80 ls []) := by
  intro n
  induction n with
  | zero => intro A0 l5 l6 h; cases h
  | succ n ih => intro A0 l5 l6 h; exact ww_f10_way_b80 C0  ih A0 l5 l6 h
set_option maxRecDepth 100000 in
set_option maxHeartbeats 4000000 in
theorem ww_f10_way_b34  (C0 : Cx cX10_way 8 (some .int) RX10 p s m args meth c G DA) {h0 : Nat} {a0 : Nat → Nat} {f0 : Nat → Int32} {p1 : Int32} {p2 : Int32} {p3 : Int32}   {res : Int32 × (Nat → Nat → Int32)}  : ∀ (A0 : Nat → Nat → Int32), f10_way_b34 f0 p1 p2 p3  A0 = some res → ∀ (H : Heap) (locs : List Loc) (ls : Array Slot), WD G DA (wX10 G h0 a0 f0 A0) H → va_S DA s.heap H locs → lv_has ls 8 [(0, .ref h0), (1, .int p1), (2, .int p2), (3, .int p3)] → W p l e rmX10_way s m args below meth c H locs 0 0 (MQ below (QI G DA res.1 (wX10 G h0 a0 f0 res.2)) args s 0 0 DA) (F0 m 34 ls []) := by
  obtain ⟨hx, hb, hml, hown, hts⟩ := C0.1
  have hK := C0.2.2.2.1
  intro A0 h _ _ _ hPD hS hl
  unfold f10_way_b34 at h
  refine lv_aload_n hx hb dX10_way_34 rfl (lv_at hl 0 rfl) ?_
  refine lv_iload_n hx hb dX10_way_35 rfl (lv_at hl 2 rfl) ?_
  obtain ⟨q_1, hq_1, h⟩ := ob2 h
  refine kVV (As := [.int p2]) (rest := []) C0 (kt_X10_laysSteps l G h0 a0 f0 A0 p2 hq_1) gi_V_X10_344_X10_laysSteps (n := 1) rfl (by decide +kernel) rfl ⟨rfl, rfl, Nat.le_of_ble_eq_true rfl, Nat.le_of_ble_eq_true rfl⟩ hPD hS 0 10 rfl rfl rfl [0, 1, 2, 3, 4, 5, 6, 7, 8, 9, 10, 11, 12, 13, 14, 15, 16, 17, 18, 19, 20, 21, 22, 23, 24, 25, 26, 27, 28, 29, 30, 31, 32, 33] [] [0, 1, 2, 3, 4, 5, 6, 7, 8, 9, 10, 11, 12, 13, 14, 15, 16, 17, 18, 19, 20, 21, 22, 23, 24, 25, 26, 27, 28, 29, 30, 31, 32, 33] (wN := (wX10 G h0 a0 f0 q_1)) rfl rfl rfl rfl rfl hl.1 (Nat.le_of_ble_eq_true rfl) dX10_way_36 (fun H locs hPD hS => ?_)
  refine lv_aload_n hx hb dX10_way_39 rfl (lv_at hl 0 rfl) ?_
  refine va_get (D := G.1) (ci := 10) (v := .ref (a0 46)) (C := RX10) (T := TX10) (N := 52) hx hb hts inlX10 hown hK hPD.1 0 rfl rfl 46 (by decide) (hts _ gw_786) (fun _ h9 => h9) rfl dX10_way_40 ?_
  refine lv_iload_n hx hb dX10_way_43 rfl (lv_at hl 1 rfl) ?_
  obtain ⟨hi_2, h⟩ := ob h
  refine va_iald hx hb hK hPD.1 29 1 rfl rfl hi_2 dX10_way_44 ?_
  refine lv_istore (lv' := [(4, .int (gx (q_1 46) p1)), (0, .ref h0), (1, .int p1), (2, .int p2), (3, .int p3)]) hx hb dX10_way_45 hl (by decide) rfl (fun ls hl => ?_)
  refine lv_iload hx hb dX10_way_47 (lv_at hl 0 rfl) ?_
  refine lv_iconst (v := (-1)) hx hb dX10_way_49 (by decide) ?_
  refine lv_icmp_ne (tgt := 56) hx hb dX10_way_50 (by decide) (fun cc1 => ?_) (fun cc1 => ?_)
  · have h := (if_neg cc1).symm.trans h
    refine lv_iload_n hx hb dX10_way_56 rfl (lv_at hl 4 rfl) ?_
    refine lv_bipush (v := 100) hx hb dX10_way_57 (by decide) ?_
    refine lv_icmp_ne (tgt := 65) hx hb dX10_way_59 (by decide) (fun cc1 => ?_) (fun cc1 => ?_)
    · have h := (if_neg cc1).symm.trans h
      refine lv_iload_n hx hb dX10_way_65 rfl (lv_at hl 4 rfl) ?_
      refine lv_iload hx hb dX10_way_66 (lv_at hl 0 rfl) ?_
      refine lv_icmp_le (tgt := 74) hx hb dX10_way_68 (by decide) (fun cc1 => ?_) (fun cc1 => ?_)
      · have h := (if_pos cc1).symm.trans h
        refine lv_iload_n hx hb dX10_way_74 rfl (lv_at hl 2 rfl) ?_
        refine lv_istore (lv' := [(5, .int p1), (4, .int (gx (q_1 46) p1)), (0, .ref h0), (1, .int p1), (2, .int p2), (3, .int p3)]) hx hb dX10_way_75 hl (by decide) rfl (fun ls hl => ?_)
        refine lv_iconst (v := 0) hx hb dX10_way_77 (by decide) ?_
        refine lv_istore (lv' := [(6, .int 0), (5, .int p1), (4, .int (gx (q_1 46) p1)), (0, .ref h0), (1, .int p1), (2, .int p2), (3, .int p3)]) hx hb dX10_way_78 hl (by decide) rfl (fun ls hl => ?_)
        exact ww_f10_way_l80 C0 NF q_1 p1 0 h _ _ _ hPD hS (lv_sub hl [3, 4, 5, 6, 1, 0] rfl)
      · have h := (if_neg cc1).symm.trans h
        refine lv_bipush (v := (-4)) hx hb dX10_way_71 (by decide) ?_
        obtain rfl := Option.some.inj h
        exact eI C0 hPD.1 hPD.2 hS rfl dX10_way_73
    · have h := (if_pos cc1).symm.trans h
      refine lv_iload hx hb dX10_way_62 (lv_at hl 0 rfl) ?_
      obtain rfl := Option.some.inj h
      exact eI C0 hPD.1 hPD.2 hS rfl dX10_way_64
  · have h := (if_pos cc1).symm.trans h
    refine lv_bipush (v := (-2)) hx hb dX10_way_53 (by decide) ?_
    obtain rfl := Option.some.inj h
    exact eI C0 hPD.1 hPD.2 hS rfl dX10_way_55
set_option maxRecDepth 100000 in
set_option maxHeartbeats 4000000 in
theorem kt_X10_way (l : Launch) (G : Gp) (h0 : Nat) (a0 : Nat → Nat) (f0 : Nat → Int32) (A0 : Nat → Nat → Int32) (p1 : Int32) (p2 : Int32) (p3 : Int32) : ∀ {r : Int32 × (Nat → Nat → Int32)}, f10_way f0 A0 p1 p2 p3 = some r → CtrI l yX10_way cX10_way 8 (some .int) rmX10_way G [.ref h0, .int p1, .int p2, .int p3] (wX10 G h0 a0 f0 A0) r.1 (wX10 G h0 a0 f0 r.2) := by
  intro res h
  refine ctrI_of (cc := cX10_way) (maxL := 8) (ret := (some .int)) (by decide +kernel) rfl (Nat.le_of_ble_eq_true rfl) (fun p e s m below meth c DA C0 hP hD ls hl => ?_)
  have hPD : WD G DA (wX10 G h0 a0 f0 A0) s.heap := ⟨hP, hD⟩
  have hS : va_S DA s.heap s.heap [] := va_S.rf
  have hl : lv_has ls 8 [(0, .ref h0), (1, .int p1), (2, .int p2), (3, .int p3)] := hl
  obtain ⟨hx, hb, hml, hown, hts⟩ := C0.1
  have hK := C0.2.2.2.1
  unfold f10_way at h
  refine lv_aload_n hx hb dX10_way_0 rfl (lv_at hl 0 rfl) ?_
  refine lv_iload_n hx hb dX10_way_1 rfl (lv_at hl 1 rfl) ?_
  refine kVI (As := [.int p1]) (rest := []) C0 (kt_X10_isTold l G h0 a0 f0 A0 p1) gi_V_X10_128_X10_isTold (n := 1) rfl (by decide +kernel) rfl ⟨rfl, rfl, Nat.le_of_ble_eq_true rfl, Nat.le_of_ble_eq_true rfl⟩ hPD hS 0 10 rfl rfl rfl [0, 1, 2, 3, 4, 5, 6, 7, 8, 9, 10, 11, 12, 13, 14, 15, 16, 17, 18, 19, 20, 21, 22, 23, 24, 25, 26, 27, 28, 29, 30, 31, 32, 33] [] [0, 1, 2, 3, 4, 5, 6, 7, 8, 9, 10, 11, 12, 13, 14, 15, 16, 17, 18, 19, 20, 21, 22, 23, 24, 25, 26, 27, 28, 29, 30, 31, 32, 33] (wN := (wX10 G h0 a0 f0 A0)) rfl rfl rfl rfl rfl hl.1 (Nat.le_of_ble_eq_true rfl) dX10_way_2 (fun H locs hPD hS => ?_)
  refine lv_if_eq (tgt := 32) hx hb dX10_way_5 (by decide) (fun cc1 => ?_) (fun cc1 => ?_)
  · have h := (if_pos cc1).symm.trans h
    refine lv_iconst (v := (-1)) hx hb dX10_way_32 (by decide) ?_
    obtain rfl := Option.some.inj h
    exact eI C0 hPD.1 hPD.2 hS rfl dX10_way_33
  · have h := (if_neg cc1).symm.trans h
    refine lv_aload_n hx hb dX10_way_8 rfl (lv_at hl 0 rfl) ?_
    refine lv_iload_n hx hb dX10_way_9 rfl (lv_at hl 2 rfl) ?_
    refine kVI (As := [.int p2]) (rest := []) C0 (kt_X10_isTold l G h0 a0 f0 A0 p2) gi_V_X10_128_X10_isTold (n := 1) rfl (by decide +kernel) rfl ⟨rfl, rfl, Nat.le_of_ble_eq_true rfl, Nat.le_of_ble_eq_true rfl⟩ hPD hS 0 10 rfl rfl rfl [0, 1, 2, 3, 4, 5, 6, 7, 8, 9, 10, 11, 12, 13, 14, 15, 16, 17, 18, 19, 20, 21, 22, 23, 24, 25, 26, 27, 28, 29, 30, 31, 32, 33] [] [0, 1, 2, 3, 4, 5, 6, 7, 8, 9, 10, 11, 12, 13, 14, 15, 16, 17, 18, 19, 20, 21, 22, 23, 24, 25, 26, 27, 28, 29, 30, 31, 32, 33] (wN := (wX10 G h0 a0 f0 A0)) rfl rfl rfl rfl rfl hl.1 (Nat.le_of_ble_eq_true rfl) dX10_way_10 (fun H locs hPD hS => ?_)
    refine lv_if_eq (tgt := 32) hx hb dX10_way_13 (by decide) (fun cc1 => ?_) (fun cc1 => ?_)
    · have h := (if_pos cc1).symm.trans h
      refine lv_iconst (v := (-1)) hx hb dX10_way_32 (by decide) ?_
      obtain rfl := Option.some.inj h
      exact eI C0 hPD.1 hPD.2 hS rfl dX10_way_33
    · have h := (if_neg cc1).symm.trans h
      refine lv_iload_n hx hb dX10_way_16 rfl (lv_at hl 3 rfl) ?_
      refine lv_iconst (v := 0) hx hb dX10_way_17 (by decide) ?_
      refine lv_bipush (v := 15) hx hb dX10_way_18 (by decide) ?_
      refine kSI (As := [.int p3, .int 0, .int 15]) (rest := []) C0 (kt_X10_in l G  p3 0 15) gi_S_X10_112_X10_in (n := 3) rfl (by decide +kernel) ⟨rfl, rfl, Nat.le_of_ble_eq_true rfl, Nat.le_of_ble_eq_true rfl⟩ hPD hS [] [0, 1, 2, 3, 4, 5, 6, 7, 8, 9, 10, 11, 12, 13, 14, 15, 16, 17, 18, 19, 20, 21, 22, 23, 24, 25, 26, 27, 28, 29, 30, 31, 32, 33] [0, 1, 2, 3, 4, 5, 6, 7, 8, 9, 10, 11, 12, 13, 14, 15, 16, 17, 18, 19, 20, 21, 22, 23, 24, 25, 26, 27, 28, 29, 30, 31, 32, 33] (wN := (wX10 G h0 a0 f0 A0)) rfl rfl rfl rfl rfl hl.1 (Nat.le_of_ble_eq_true rfl) dX10_way_20 (fun H locs hPD hS => ?_)
      refine lv_if_ne (tgt := 34) hx hb dX10_way_23 (by decide) (fun cc1 => ?_) (fun cc1 => ?_)
      · have h := (if_neg cc1).symm.trans h
        exact ww_f10_way_b34 C0 A0 h _ _ _ hPD hS (lv_sub hl [0, 1, 2, 3] rfl)
      · have h := (if_pos cc1).symm.trans h
        refine lv_iload_n hx hb dX10_way_26 rfl (lv_at hl 3 rfl) ?_
        refine lv_bipush (v := 100) hx hb dX10_way_27 (by decide) ?_
        refine lv_icmp_eq (tgt := 34) hx hb dX10_way_29 (by decide) (fun cc1 => ?_) (fun cc1 => ?_)
        · have h := (if_pos cc1).symm.trans h
          exact ww_f10_way_b34 C0 A0 h _ _ _ hPD hS (lv_sub hl [0, 1, 2, 3] rfl)
        · have h := (if_neg cc1).symm.trans h
          refine lv_iconst (v := (-1)) hx hb dX10_way_32 (by decide) ?_
          obtain rfl := Option.some.inj h
          exact eI C0 hPD.1 hPD.2 hS rfl dX10_way_33
abbrev rmX10_ways : Room := { frames := 2, cells := 0, slots := 0, locals := 46 }
set_option maxRecDepth 100000 in
set_option maxHeartbeats 4000000 in
theorem kt_X10_ways (l : Launch) (G : Gp) (h0 : Nat) (a0 : Nat → Nat) (f0 : Nat → Int32) (A0 : Nat → Nat → Int32) (p1 : Int32) (p2 : Int32) : ∀ {r : Int32 × (Nat → Nat → Int32)}, f10_ways f0 A0 p1 p2 = some r → CtrI l yX10_ways cX10_ways 3 (some .int) rmX10_ways G [.ref h0, .int p1, .int p2] (wX10 G h0 a0 f0 A0) r.1 (wX10 G h0 a0 f0 r.2) := by
  intro res h
  refine ctrI_of (cc := cX10_ways) (maxL := 3) (ret := (some .int)) (by decide +kernel) rfl (Nat.le_of_ble_eq_true rfl) (fun p e s m below meth c DA C0 hP hD ls hl => ?_)
  have hPD : WD G DA (wX10 G h0 a0 f0 A0) s.heap := ⟨hP, hD⟩
  have hS : va_S DA s.heap s.heap [] := va_S.rf
  have hl : lv_has ls 3 [(0, .ref h0), (1, .int p1), (2, .int p2)] := hl
  obtain ⟨hx, hb, hml, hown, hts⟩ := C0.1
  have hK := C0.2.2.2.1
  unfold f10_ways at h
  refine lv_aload_n hx hb dX10_ways_0 rfl (lv_at hl 0 rfl) ?_
  refine lv_iload_n hx hb dX10_ways_1 rfl (lv_at hl 1 rfl) ?_
  refine kVI (As := [.int p1]) (rest := []) C0 (kt_X10_isTold l G h0 a0 f0 A0 p1) gi_V_X10_128_X10_isTold (n := 1) rfl (by decide +kernel) rfl ⟨rfl, rfl, Nat.le_of_ble_eq_true rfl, Nat.le_of_ble_eq_true rfl⟩ hPD hS 0 10 rfl rfl rfl [0, 1, 2, 3, 4, 5, 6, 7, 8, 9, 10, 11, 12, 13, 14, 15, 16, 17, 18, 19, 20, 21, 22, 23, 24, 25, 26, 27, 28, 29, 30, 31, 32, 33] [] [0, 1, 2, 3, 4, 5, 6, 7, 8, 9, 10, 11, 12, 13, 14, 15, 16, 17, 18, 19, 20, 21, 22, 23, 24, 25, 26, 27, 28, 29, 30, 31, 32, 33] (wN := (wX10 G h0 a0 f0 A0)) rfl rfl rfl rfl rfl hl.1 (Nat.le_of_ble_eq_true rfl) dX10_ways_2 (fun H locs hPD hS => ?_)
  refine lv_if_eq (tgt := 16) hx hb dX10_ways_5 (by decide) (fun cc1 => ?_) (fun cc1 => ?_)
  · have h := (if_pos cc1).symm.trans h
    refine lv_iconst (v := (-1)) hx hb dX10_ways_16 (by decide) ?_
    obtain rfl := Option.some.inj h
    exact eI C0 hPD.1 hPD.2 hS rfl dX10_ways_17
  · have h := (if_neg cc1).symm.trans h
    refine lv_aload_n hx hb dX10_ways_8 rfl (lv_at hl 0 rfl) ?_
    refine lv_iload_n hx hb dX10_ways_9 rfl (lv_at hl 2 rfl) ?_
    refine kVI (As := [.int p2]) (rest := []) C0 (kt_X10_isTold l G h0 a0 f0 A0 p2) gi_V_X10_128_X10_isTold (n := 1) rfl (by decide +kernel) rfl ⟨rfl, rfl, Nat.le_of_ble_eq_true rfl, Nat.le_of_ble_eq_true rfl⟩ hPD hS 0 10 rfl rfl rfl [0, 1, 2, 3, 4, 5, 6, 7, 8, 9, 10, 11, 12, 13, 14, 15, 16, 17, 18, 19, 20, 21, 22, 23, 24, 25, 26, 27, 28, 29, 30, 31, 32, 33] [] [0, 1, 2, 3, 4, 5, 6, 7, 8, 9, 10, 11, 12, 13, 14, 15, 16, 17, 18, 19, 20, 21, 22, 23, 24, 25, 26, 27, 28, 29, 30, 31, 32, 33] (wN := (wX10 G h0 a0 f0 A0)) rfl rfl rfl rfl rfl hl.1 (Nat.le_of_ble_eq_true rfl) dX10_ways_10 (fun H locs hPD hS => ?_)
    refine lv_if_ne (tgt := 18) hx hb dX10_ways_13 (by decide) (fun cc1 => ?_) (fun cc1 => ?_)
    · have h := (if_neg cc1).symm.trans h
      refine lv_aload_n hx hb dX10_ways_18 rfl (lv_at hl 0 rfl) ?_
      refine lv_iload_n hx hb dX10_ways_19 rfl (lv_at hl 1 rfl) ?_
      obtain ⟨q_1, hq_1, h⟩ := ob2 h
      refine kVV (As := [.int p1]) (rest := []) C0 (kt_X10_laysSteps l G h0 a0 f0 A0 p1 hq_1) gi_V_X10_344_X10_laysSteps (n := 1) rfl (by decide +kernel) rfl ⟨rfl, rfl, Nat.le_of_ble_eq_true rfl, Nat.le_of_ble_eq_true rfl⟩ hPD hS 0 10 rfl rfl rfl [0, 1, 2, 3, 4, 5, 6, 7, 8, 9, 10, 11, 12, 13, 14, 15, 16, 17, 18, 19, 20, 21, 22, 23, 24, 25, 26, 27, 28, 29, 30, 31, 32, 33] [] [0, 1, 2, 3, 4, 5, 6, 7, 8, 9, 10, 11, 12, 13, 14, 15, 16, 17, 18, 19, 20, 21, 22, 23, 24, 25, 26, 27, 28, 29, 30, 31, 32, 33] (wN := (wX10 G h0 a0 f0 q_1)) rfl rfl rfl rfl rfl hl.1 (Nat.le_of_ble_eq_true rfl) dX10_ways_20 (fun H locs hPD hS => ?_)
      refine lv_aload_n hx hb dX10_ways_23 rfl (lv_at hl 0 rfl) ?_
      refine va_get (D := G.1) (ci := 10) (v := .ref (a0 47)) (C := RX10) (T := TX10) (N := 52) hx hb hts inlX10 hown hK hPD.1 0 rfl rfl 47 (by decide) (hts _ gw_787) (fun _ h9 => h9) rfl dX10_ways_24 ?_
      refine lv_iload_n hx hb dX10_ways_27 rfl (lv_at hl 2 rfl) ?_
      obtain ⟨hi_2, h⟩ := ob h
      refine va_iald hx hb hK hPD.1 30 1 rfl rfl hi_2 dX10_ways_28 ?_
      obtain rfl := Option.some.inj h
      exact eI C0 hPD.1 hPD.2 hS rfl dX10_ways_29
    · have h := (if_pos cc1).symm.trans h
      refine lv_iconst (v := (-1)) hx hb dX10_ways_16 (by decide) ?_
      obtain rfl := Option.some.inj h
      exact eI C0 hPD.1 hPD.2 hS rfl dX10_ways_17
abbrev rmX10_nearest : Room := { frames := 2, cells := 0, slots := 0, locals := 46 }
set_option maxRecDepth 100000 in
set_option maxHeartbeats 4000000 in
theorem ww_f10_nearest_b35  (C0 : Cx cX10_nearest 6 (some .int) RX10 p s m args meth c G DA) {h0 : Nat} {a0 : Nat → Nat} {f0 : Nat → Int32} {p1 : Int32} {p2 : Int32}  {k35 : (Nat → Nat → Int32) → Int32 → Int32 → Int32 → Option (Int32 × (Nat → Nat → Int32))} {res : Int32 × (Nat → Nat → Int32)}  (hk35 : ∀ (A0 : Nat → Nat → Int32) (l3 : Int32) (l4 : Int32) (l5 : Int32), k35 A0 l3 l4 l5 = some res → ∀ (H : Heap) (locs : List Loc) (ls : Array Slot), WD G DA (wX10 G h0 a0 f0 A0) H → va_S DA s.heap H locs → lv_has ls 6 [(0, .ref h0), (1, .int p1), (2, .int p2), (3, .int l3), (4, .int l4), (5, .int l5)] → W p l e rmX10_nearest s m args below meth c H locs 0 0 (MQ below (QI G DA res.1 (wX10 G h0 a0 f0 res.2)) args s 0 0 DA) (F0 m 35 ls [])) : ∀ (A0 : Nat → Nat → Int32) (l3 : Int32) (l4 : Int32) (l5 : Int32), f10_nearest_b35 f0 p1 p2  k35 A0 l3 l4 l5 = some res → ∀ (H : Heap) (locs : List Loc) (ls : Array Slot), WD G DA (wX10 G h0 a0 f0 A0) H → va_S DA s.heap H locs → lv_has ls 6 [(0, .ref h0), (1, .int p1), (2, .int p2), (3, .int l3), (4, .int l4), (5, .int l5)] → W p l e rmX10_nearest s m args below meth c H locs 0 0 (MQ below (QI G DA res.1 (wX10 G h0 a0 f0 res.2)) args s 0 0 DA) (F0 m 35 ls []) := by
  obtain ⟨hx, hb, hml, hown, hts⟩ := C0.1
  have hK := C0.2.2.2.1
  intro A0 l3 l4 l5 h _ _ _ hPD hS hl
  unfold f10_nearest_b35 at h
  refine lv_iload hx hb dX10_nearest_35 (lv_at hl 5 rfl) ?_
  refine lv_bipush (v := 8) hx hb dX10_nearest_37 (by decide) ?_
  refine lv_icmp_ge (tgt := 119) hx hb dX10_nearest_39 (by decide) (fun cc1 => ?_) (fun cc1 => ?_)
  · have h := (if_pos cc1).symm.trans h
    refine lv_iload_n hx hb dX10_nearest_119 rfl (lv_at hl 2 rfl) ?_
    refine lv_if_eq (tgt := 129) hx hb dX10_nearest_120 (by decide) (fun cc1 => ?_) (fun cc1 => ?_)
    · have h := (if_pos cc1).symm.trans h
      refine lv_iload_n hx hb dX10_nearest_129 rfl (lv_at hl 3 rfl) ?_
      refine lv_goto (tgt := 135) hx hb dX10_nearest_130 (by decide) ?_
      obtain rfl := Option.some.inj h
      exact eI C0 hPD.1 hPD.2 hS rfl dX10_nearest_135
    · have h := (if_neg cc1).symm.trans h
      refine lv_iload_n hx hb dX10_nearest_123 rfl (lv_at hl 3 rfl) ?_
      refine lv_bipush (v := (-2)) hx hb dX10_nearest_124 (by decide) ?_
      refine lv_icmp_ne (tgt := 133) hx hb dX10_nearest_126 (by decide) (fun cc1 => ?_) (fun cc1 => ?_)
      · have h := (if_neg cc1).symm.trans h
        refine lv_iload hx hb dX10_nearest_133 (lv_at hl 4 rfl) ?_
        obtain rfl := Option.some.inj h
        exact eI C0 hPD.1 hPD.2 hS rfl dX10_nearest_135
      · have h := (if_pos cc1).symm.trans h
        refine lv_iload_n hx hb dX10_nearest_129 rfl (lv_at hl 3 rfl) ?_
        refine lv_goto (tgt := 135) hx hb dX10_nearest_130 (by decide) ?_
        obtain rfl := Option.some.inj h
        exact eI C0 hPD.1 hPD.2 hS rfl dX10_nearest_135
  · have h := (if_neg cc1).symm.trans h
    refine lv_aload_n hx hb dX10_nearest_42 rfl (lv_at hl 0 rfl) ?_
    refine lv_iload hx hb dX10_nearest_43 (lv_at hl 5 rfl) ?_
    obtain ⟨q_2, hq_2, h⟩ := ob2 h
    refine kVI (As := [.int l5]) (rest := []) C0 (kt_X10_isMan l G h0 a0 f0 A0 l5 hq_2) gi_V_X10_124_X10_isMan (n := 1) rfl (by decide +kernel) rfl ⟨rfl, rfl, Nat.le_of_ble_eq_true rfl, Nat.le_of_ble_eq_true rfl⟩ hPD hS 0 10 rfl rfl rfl [0, 1, 2, 3, 4, 5, 6, 7, 8, 9, 10, 11, 12, 13, 14, 15, 16, 17, 18, 19, 20, 21, 22, 23, 24, 25, 26, 27, 28, 29, 30, 31, 32, 33] [] [0, 1, 2, 3, 4, 5, 6, 7, 8, 9, 10, 11, 12, 13, 14, 15, 16, 17, 18, 19, 20, 21, 22, 23, 24, 25, 26, 27, 28, 29, 30, 31, 32, 33] (wN := (wX10 G h0 a0 f0 A0)) rfl rfl rfl rfl rfl hl.1 (Nat.le_of_ble_eq_true rfl) dX10_nearest_45 (fun H locs hPD hS => ?_)
    refine lv_if_eq (tgt := 113) hx hb dX10_nearest_48 (by decide) (fun cc1 => ?_) (fun cc1 => ?_)
    · have h := (if_pos cc1).symm.trans h
      refine lv_iinc (v := l5 + 1) (lv' := [(5, .int (l5 + 1)), (0, .ref h0), (1, .int p1), (2, .int p2), (3, .int l3), (4, .int l4)]) hx hb dX10_nearest_113 hl (k := 5) rfl rfl (by decide) rfl (fun ls hl => ?_)
      refine lv_goto (tgt := 35) hx hb dX10_nearest_116 (by decide) ?_
      exact hk35 A0 l3 l4 (l5 + 1) h _ _ _ hPD hS (lv_sub hl [1, 2, 3, 4, 5, 0] rfl)
    · have h := (if_neg cc1).symm.trans h
      refine lv_aload_n hx hb dX10_nearest_51 rfl (lv_at hl 0 rfl) ?_
      refine va_get (D := G.1) (ci := 10) (v := .ref (a0 46)) (C := RX10) (T := TX10) (N := 52) hx hb hts inlX10 hown hK hPD.1 0 rfl rfl 46 (by decide) (hts _ gw_786) (fun _ h9 => h9) rfl dX10_nearest_52 ?_
      refine lv_aload_n hx hb dX10_nearest_55 rfl (lv_at hl 0 rfl) ?_
      refine va_get (D := G.1) (ci := 10) (v := .ref (a0 0)) (C := RX10) (T := TX10) (N := 52) hx hb hts inlX10 hown hK hPD.1 0 rfl rfl 0 (by decide) (hts _ gw_539) (fun _ h9 => h9) rfl dX10_nearest_56 ?_
      refine lv_bipush (v := 56) hx hb dX10_nearest_59 (by decide) ?_
      refine lv_iload hx hb dX10_nearest_61 (lv_at hl 5 rfl) ?_
      refine lv_iadd hx hb dX10_nearest_63 ?_
      obtain ⟨hi_3, h⟩ := ob h
      refine va_iald hx hb hK hPD.1 1 1 rfl rfl hi_3 dX10_nearest_64 ?_
      obtain ⟨hi_4, h⟩ := ob h
      refine va_iald hx hb hK hPD.1 29 1 rfl rfl hi_4 dX10_nearest_65 ?_
      refine lv_iconst (v := (-1)) hx hb dX10_nearest_66 (by decide) ?_
      refine lv_icmp_eq (tgt := 113) hx hb dX10_nearest_67 (by decide) (fun cc1 => ?_) (fun cc1 => ?_)
      · have h := (if_pos cc1).symm.trans h
        refine lv_iinc (v := l5 + 1) (lv' := [(5, .int (l5 + 1)), (0, .ref h0), (1, .int p1), (2, .int p2), (3, .int l3), (4, .int l4)]) hx hb dX10_nearest_113 hl (k := 5) rfl rfl (by decide) rfl (fun ls hl => ?_)
        refine lv_goto (tgt := 35) hx hb dX10_nearest_116 (by decide) ?_
        exact hk35 A0 l3 l4 (l5 + 1) h _ _ _ hPD hS (lv_sub hl [1, 2, 3, 4, 5, 0] rfl)
      · have h := (if_neg cc1).symm.trans h
        refine lv_aload_n hx hb dX10_nearest_70 rfl (lv_at hl 0 rfl) ?_
        refine va_get (D := G.1) (ci := 10) (v := .ref (a0 46)) (C := RX10) (T := TX10) (N := 52) hx hb hts inlX10 hown hK hPD.1 0 rfl rfl 46 (by decide) (hts _ gw_786) (fun _ h9 => h9) rfl dX10_nearest_71 ?_
        refine lv_aload_n hx hb dX10_nearest_74 rfl (lv_at hl 0 rfl) ?_
        refine va_get (D := G.1) (ci := 10) (v := .ref (a0 0)) (C := RX10) (T := TX10) (N := 52) hx hb hts inlX10 hown hK hPD.1 0 rfl rfl 0 (by decide) (hts _ gw_539) (fun _ h9 => h9) rfl dX10_nearest_75 ?_
        refine lv_bipush (v := 56) hx hb dX10_nearest_78 (by decide) ?_
        refine lv_iload hx hb dX10_nearest_80 (lv_at hl 5 rfl) ?_
        refine lv_iadd hx hb dX10_nearest_82 ?_
        obtain ⟨hi_5, h⟩ := ob h
        refine va_iald hx hb hK hPD.1 1 1 rfl rfl hi_5 dX10_nearest_83 ?_
        obtain ⟨hi_6, h⟩ := ob h
        refine va_iald hx hb hK hPD.1 29 1 rfl rfl hi_6 dX10_nearest_84 ?_
        refine lv_iload hx hb dX10_nearest_85 (lv_at hl 4 rfl) ?_
        refine lv_icmp_lt (tgt := 93) hx hb dX10_nearest_87 (by decide) (fun cc1 => ?_) (fun cc1 => ?_)
        · have h := (if_pos cc1).symm.trans h
          refine lv_aload_n hx hb dX10_nearest_93 rfl (lv_at hl 0 rfl) ?_
          refine va_get (D := G.1) (ci := 10) (v := .ref (a0 46)) (C := RX10) (T := TX10) (N := 52) hx hb hts inlX10 hown hK hPD.1 0 rfl rfl 46 (by decide) (hts _ gw_786) (fun _ h9 => h9) rfl dX10_nearest_94 ?_
          refine lv_aload_n hx hb dX10_nearest_97 rfl (lv_at hl 0 rfl) ?_
          refine va_get (D := G.1) (ci := 10) (v := .ref (a0 0)) (C := RX10) (T := TX10) (N := 52) hx hb hts inlX10 hown hK hPD.1 0 rfl rfl 0 (by decide) (hts _ gw_539) (fun _ h9 => h9) rfl dX10_nearest_98 ?_
          refine lv_bipush (v := 56) hx hb dX10_nearest_101 (by decide) ?_
          refine lv_iload hx hb dX10_nearest_103 (lv_at hl 5 rfl) ?_
          refine lv_iadd hx hb dX10_nearest_105 ?_
          obtain ⟨hi_7, h⟩ := ob h
          refine va_iald hx hb hK hPD.1 1 1 rfl rfl hi_7 dX10_nearest_106 ?_
          obtain ⟨hi_8, h⟩ := ob h
          refine va_iald hx hb hK hPD.1 29 1 rfl rfl hi_8 dX10_nearest_107 ?_
          refine lv_istore (lv' := [(4, .int (gx (A0 46) (gx (A0 0) (56 + l5)))), (0, .ref h0), (1, .int p1), (2, .int p2), (3, .int l3), (5, .int l5)]) hx hb dX10_nearest_108 hl (by decide) rfl (fun ls hl => ?_)
          refine lv_iload hx hb dX10_nearest_110 (lv_at hl 5 rfl) ?_
          refine lv_istore_n (lv' := [(3, .int l5), (4, .int (gx (A0 46) (gx (A0 0) (56 + l5)))), (0, .ref h0), (1, .int p1), (2, .int p2), (5, .int l5)]) hx hb dX10_nearest_112 rfl hl (by decide) rfl (fun ls hl => ?_)
          refine lv_iinc (v := l5 + 1) (lv' := [(5, .int (l5 + 1)), (3, .int l5), (4, .int (gx (A0 46) (gx (A0 0) (56 + l5)))), (0, .ref h0), (1, .int p1), (2, .int p2)]) hx hb dX10_nearest_113 hl (k := 5) rfl rfl (by decide) rfl (fun ls hl => ?_)
          refine lv_goto (tgt := 35) hx hb dX10_nearest_116 (by decide) ?_
          exact hk35 A0 l5 (gx (A0 46) (gx (A0 0) (56 + l5))) (l5 + 1) h _ _ _ hPD hS (lv_sub hl [3, 4, 5, 1, 2, 0] rfl)
        · have h := (if_neg cc1).symm.trans h
          refine lv_goto (tgt := 113) hx hb dX10_nearest_90 (by decide) ?_
          refine lv_iinc (v := l5 + 1) (lv' := [(5, .int (l5 + 1)), (0, .ref h0), (1, .int p1), (2, .int p2), (3, .int l3), (4, .int l4)]) hx hb dX10_nearest_113 hl (k := 5) rfl rfl (by decide) rfl (fun ls hl => ?_)
          refine lv_goto (tgt := 35) hx hb dX10_nearest_116 (by decide) ?_
          exact hk35 A0 l3 l4 (l5 + 1) h _ _ _ hPD hS (lv_sub hl [1, 2, 3, 4, 5, 0] rfl)
set_option maxRecDepth 100000 in
set_option maxHeartbeats 4000000 in
theorem ww_f10_nearest_l35  (C0 : Cx cX10_nearest 6 (some .int) RX10 p s m args meth c G DA) {h0 : Nat} {a0 : Nat → Nat} {f0 : Nat → Int32} {p1 : Int32} {p2 : Int32}   {res : Int32 × (Nat → Nat → Int32)}  : ∀ (n : Nat) (A0 : Nat → Nat → Int32) (l3 : Int32) (l4 : Int32) (l5 : Int32), f10_nearest_l35 f0 p1 p2  n A0 l3 l4 l5 = some res → ∀ (H : Heap) (locs : List Loc) (ls : Array Slot), WD G DA (wX10 G h0 a0 f0 A0) H → va_S DA s.heap H locs → lv_has ls 6 [(0, .ref h0), (1, .int p1), (2, .int p2), (3, .int l3), (4, .int l4), (5, .int l5)] → W p l e rmX10_nearest s m args below meth c H locs 0 0 (MQ below (QI G DA res.1 (wX10 G h0 a0 f0 res.2)) args s 0 0 DA) (F0 m 35 ls []) := by
  intro n
  induction n with
  | zero => intro A0 l3 l4 l5 h; cases h
  | succ n ih => intro A0 l3 l4 l5 h; exact ww_f10_nearest_b35 C0  ih A0 l3 l4 l5 h
set_option maxRecDepth 100000 in
set_option maxHeartbeats 4000000 in
theorem kt_X10_nearest (l : Launch) (G : Gp) (h0 : Nat) (a0 : Nat → Nat) (f0 : Nat → Int32) (A0 : Nat → Nat → Int32) (p1 : Int32) (p2 : Int32) : ∀ {r : Int32 × (Nat → Nat → Int32)}, f10_nearest f0 A0 p1 p2 = some r → CtrI l yX10_nearest cX10_nearest 6 (some .int) rmX10_nearest G [.ref h0, .int p1, .int p2] (wX10 G h0 a0 f0 A0) r.1 (wX10 G h0 a0 f0 r.2) := by
  intro res h
  refine ctrI_of (cc := cX10_nearest) (maxL := 6) (ret := (some .int)) (by decide +kernel) rfl (Nat.le_of_ble_eq_true rfl) (fun p e s m below meth c DA C0 hP hD ls hl => ?_)
  have hPD : WD G DA (wX10 G h0 a0 f0 A0) s.heap := ⟨hP, hD⟩
  have hS : va_S DA s.heap s.heap [] := va_S.rf
  have hl : lv_has ls 6 [(0, .ref h0), (1, .int p1), (2, .int p2)] := hl
  obtain ⟨hx, hb, hml, hown, hts⟩ := C0.1
  have hK := C0.2.2.2.1
  unfold f10_nearest at h
  refine lv_aload_n hx hb dX10_nearest_0 rfl (lv_at hl 0 rfl) ?_
  refine lv_iload_n hx hb dX10_nearest_1 rfl (lv_at hl 1 rfl) ?_
  refine kVI (As := [.int p1]) (rest := []) C0 (kt_X10_isTold l G h0 a0 f0 A0 p1) gi_V_X10_128_X10_isTold (n := 1) rfl (by decide +kernel) rfl ⟨rfl, rfl, Nat.le_of_ble_eq_true rfl, Nat.le_of_ble_eq_true rfl⟩ hPD hS 0 10 rfl rfl rfl [0, 1, 2, 3, 4, 5, 6, 7, 8, 9, 10, 11, 12, 13, 14, 15, 16, 17, 18, 19, 20, 21, 22, 23, 24, 25, 26, 27, 28, 29, 30, 31, 32, 33] [] [0, 1, 2, 3, 4, 5, 6, 7, 8, 9, 10, 11, 12, 13, 14, 15, 16, 17, 18, 19, 20, 21, 22, 23, 24, 25, 26, 27, 28, 29, 30, 31, 32, 33] (wN := (wX10 G h0 a0 f0 A0)) rfl rfl rfl rfl rfl hl.1 (Nat.le_of_ble_eq_true rfl) dX10_nearest_2 (fun H locs hPD hS => ?_)
  refine lv_if_eq (tgt := 17) hx hb dX10_nearest_5 (by decide) (fun cc1 => ?_) (fun cc1 => ?_)
  · have h := (if_pos cc1).symm.trans h
    refine lv_iconst (v := (-1)) hx hb dX10_nearest_17 (by decide) ?_
    obtain rfl := Option.some.inj h
    exact eI C0 hPD.1 hPD.2 hS rfl dX10_nearest_18
  · have h := (if_neg cc1).symm.trans h
    refine lv_iload_n hx hb dX10_nearest_8 rfl (lv_at hl 2 rfl) ?_
    refine lv_iconst (v := 0) hx hb dX10_nearest_9 (by decide) ?_
    refine lv_iconst (v := 1) hx hb dX10_nearest_10 (by decide) ?_
    refine kSI (As := [.int p2, .int 0, .int 1]) (rest := []) C0 (kt_X10_in l G  p2 0 1) gi_S_X10_112_X10_in (n := 3) rfl (by decide +kernel) ⟨rfl, rfl, Nat.le_of_ble_eq_true rfl, Nat.le_of_ble_eq_true rfl⟩ hPD hS [] [0, 1, 2, 3, 4, 5, 6, 7, 8, 9, 10, 11, 12, 13, 14, 15, 16, 17, 18, 19, 20, 21, 22, 23, 24, 25, 26, 27, 28, 29, 30, 31, 32, 33] [0, 1, 2, 3, 4, 5, 6, 7, 8, 9, 10, 11, 12, 13, 14, 15, 16, 17, 18, 19, 20, 21, 22, 23, 24, 25, 26, 27, 28, 29, 30, 31, 32, 33] (wN := (wX10 G h0 a0 f0 A0)) rfl rfl rfl rfl rfl hl.1 (Nat.le_of_ble_eq_true rfl) dX10_nearest_11 (fun H locs hPD hS => ?_)
    refine lv_if_ne (tgt := 19) hx hb dX10_nearest_14 (by decide) (fun cc1 => ?_) (fun cc1 => ?_)
    · have h := (if_neg cc1).symm.trans h
      refine lv_aload_n hx hb dX10_nearest_19 rfl (lv_at hl 0 rfl) ?_
      refine lv_iload_n hx hb dX10_nearest_20 rfl (lv_at hl 1 rfl) ?_
      obtain ⟨q_1, hq_1, h⟩ := ob2 h
      refine kVV (As := [.int p1]) (rest := []) C0 (kt_X10_laysSteps l G h0 a0 f0 A0 p1 hq_1) gi_V_X10_344_X10_laysSteps (n := 1) rfl (by decide +kernel) rfl ⟨rfl, rfl, Nat.le_of_ble_eq_true rfl, Nat.le_of_ble_eq_true rfl⟩ hPD hS 0 10 rfl rfl rfl [0, 1, 2, 3, 4, 5, 6, 7, 8, 9, 10, 11, 12, 13, 14, 15, 16, 17, 18, 19, 20, 21, 22, 23, 24, 25, 26, 27, 28, 29, 30, 31, 32, 33] [] [0, 1, 2, 3, 4, 5, 6, 7, 8, 9, 10, 11, 12, 13, 14, 15, 16, 17, 18, 19, 20, 21, 22, 23, 24, 25, 26, 27, 28, 29, 30, 31, 32, 33] (wN := (wX10 G h0 a0 f0 q_1)) rfl rfl rfl rfl rfl hl.1 (Nat.le_of_ble_eq_true rfl) dX10_nearest_21 (fun H locs hPD hS => ?_)
      refine lv_bipush (v := (-2)) hx hb dX10_nearest_24 (by decide) ?_
      refine lv_istore_n (lv' := [(3, .int (-2)), (0, .ref h0), (1, .int p1), (2, .int p2)]) hx hb dX10_nearest_26 rfl hl (by decide) rfl (fun ls hl => ?_)
      refine lv_ldcw (v := 1000000) hx hb hown (hts _ gw_811) dX10_nearest_27 ?_
      refine lv_istore (lv' := [(4, .int 1000000), (3, .int (-2)), (0, .ref h0), (1, .int p1), (2, .int p2)]) hx hb dX10_nearest_30 hl (by decide) rfl (fun ls hl => ?_)
      refine lv_iconst (v := 0) hx hb dX10_nearest_32 (by decide) ?_
      refine lv_istore (lv' := [(5, .int 0), (4, .int 1000000), (3, .int (-2)), (0, .ref h0), (1, .int p1), (2, .int p2)]) hx hb dX10_nearest_33 hl (by decide) rfl (fun ls hl => ?_)
      exact ww_f10_nearest_l35 C0 NF q_1 (-2) 1000000 0 h _ _ _ hPD hS (lv_sub hl [3, 4, 5, 2, 1, 0] rfl)
    · have h := (if_pos cc1).symm.trans h
      refine lv_iconst (v := (-1)) hx hb dX10_nearest_17 (by decide) ?_
      obtain rfl := Option.some.inj h
      exact eI C0 hPD.1 hPD.2 hS rfl dX10_nearest_18
abbrev rmX10_stepsOrFar : Room := { frames := 0, cells := 0, slots := 0, locals := 0 }
set_option maxRecDepth 100000 in
set_option maxHeartbeats 4000000 in
theorem kt_X10_stepsOrFar (l : Launch) (G : Gp) (h0 : Nat) (a0 : Nat → Nat) (f0 : Nat → Int32) (A0 : Nat → Nat → Int32) (p1 : Int32) : ∀ {r : Int32}, f10_stepsOrFar f0 A0 p1 = some r → CtrI l yX10_stepsOrFar cX10_stepsOrFar 2 (some .int) rmX10_stepsOrFar G [.ref h0, .int p1] (wX10 G h0 a0 f0 A0) r (wX10 G h0 a0 f0 A0) := by
  intro res h
  refine ctrI_of (cc := cX10_stepsOrFar) (maxL := 2) (ret := (some .int)) (by decide +kernel) rfl (Nat.le_of_ble_eq_true rfl) (fun p e s m below meth c DA C0 hP hD ls hl => ?_)
  have hPD : WD G DA (wX10 G h0 a0 f0 A0) s.heap := ⟨hP, hD⟩
  have hS : va_S DA s.heap s.heap [] := va_S.rf
  have hl : lv_has ls 2 [(0, .ref h0), (1, .int p1)] := hl
  obtain ⟨hx, hb, hml, hown, hts⟩ := C0.1
  have hK := C0.2.2.2.1
  unfold f10_stepsOrFar at h
  refine lv_aload_n hx hb dX10_stepsOrFar_0 rfl (lv_at hl 0 rfl) ?_
  refine va_get (D := G.1) (ci := 10) (v := .ref (a0 46)) (C := RX10) (T := TX10) (N := 52) hx hb hts inlX10 hown hK hPD.1 0 rfl rfl 46 (by decide) (hts _ gw_786) (fun _ h9 => h9) rfl dX10_stepsOrFar_1 ?_
  refine lv_iload_n hx hb dX10_stepsOrFar_4 rfl (lv_at hl 1 rfl) ?_
  obtain ⟨hi_1, h⟩ := ob h
  refine va_iald hx hb hK hPD.1 29 1 rfl rfl hi_1 dX10_stepsOrFar_5 ?_
  refine lv_iconst (v := (-1)) hx hb dX10_stepsOrFar_6 (by decide) ?_
  refine lv_icmp_ne (tgt := 16) hx hb dX10_stepsOrFar_7 (by decide) (fun cc1 => ?_) (fun cc1 => ?_)
  · have h := (if_neg cc1).symm.trans h
    refine lv_aload_n hx hb dX10_stepsOrFar_16 rfl (lv_at hl 0 rfl) ?_
    refine va_get (D := G.1) (ci := 10) (v := .ref (a0 46)) (C := RX10) (T := TX10) (N := 52) hx hb hts inlX10 hown hK hPD.1 0 rfl rfl 46 (by decide) (hts _ gw_786) (fun _ h9 => h9) rfl dX10_stepsOrFar_17 ?_
    refine lv_iload_n hx hb dX10_stepsOrFar_20 rfl (lv_at hl 1 rfl) ?_
    obtain ⟨hi_2, h⟩ := ob h
    refine va_iald hx hb hK hPD.1 29 1 rfl rfl hi_2 dX10_stepsOrFar_21 ?_
    obtain rfl := Option.some.inj h
    exact eI C0 hPD.1 hPD.2 hS rfl dX10_stepsOrFar_22
  · have h := (if_pos cc1).symm.trans h
    refine lv_ldcw (v := 1000000) hx hb hown (hts _ gw_811) dX10_stepsOrFar_10 ?_
    refine lv_goto (tgt := 22) hx hb dX10_stepsOrFar_13 (by decide) ?_
    obtain rfl := Option.some.inj h
    exact eI C0 hPD.1 hPD.2 hS rfl dX10_stepsOrFar_22
abbrev rmX10_alibis : Room := { frames := 2, cells := 0, slots := 0, locals := 46 }
set_option maxRecDepth 100000 in
set_option maxHeartbeats 4000000 in
theorem ww_f10_alibis_b102  (C0 : Cx cX10_alibis 11 (some .int) RX10 p s m args meth c G DA) {h0 : Nat} {a0 : Nat → Nat} {p1 : Int32} {p2 : Int32} {p3 : Int32}  {k102 : (Nat → Nat → Int32) → (Nat → Int32) → Int32 → Int32 → Option (Int32 × (Nat → Nat → Int32) × (Nat → Int32))} {res : Int32 × (Nat → Nat → Int32) × (Nat → Int32)}  (hk102 : ∀ (A0 : Nat → Nat → Int32) (f0 : Nat → Int32) (l4 : Int32) (l5 : Int32), k102 A0 f0 l4 l5 = some res → ∀ (H : Heap) (locs : List Loc) (ls : Array Slot), WD G DA (wX10 G h0 a0 f0 A0) H → va_S DA s.heap H locs → lv_has ls 11 [(0, .ref h0), (1, .int p1), (2, .int p2), (3, .int p3), (4, .int l4), (5, .int l5)] → W p l e rmX10_alibis s m args below meth c H locs 0 0 (MQ below (QI G DA res.1 (wX10 G h0 a0 res.2.2 res.2.1)) args s 0 0 DA) (F0 m 102 ls [])) : ∀ (A0 : Nat → Nat → Int32) (f0 : Nat → Int32) (l4 : Int32) (l5 : Int32), f10_alibis_b102 p1 p2 p3  k102 A0 f0 l4 l5 = some res → ∀ (H : Heap) (locs : List Loc) (ls : Array Slot), WD G DA (wX10 G h0 a0 f0 A0) H → va_S DA s.heap H locs → lv_has ls 11 [(0, .ref h0), (1, .int p1), (2, .int p2), (3, .int p3), (4, .int l4), (5, .int l5)] → W p l e rmX10_alibis s m args below meth c H locs 0 0 (MQ below (QI G DA res.1 (wX10 G h0 a0 res.2.2 res.2.1)) args s 0 0 DA) (F0 m 102 ls []) := by
  obtain ⟨hx, hb, hml, hown, hts⟩ := C0.1
  have hK := C0.2.2.2.1
  intro A0 f0 l4 l5 h _ _ _ hPD hS hl
  unfold f10_alibis_b102 at h
  refine lv_iload hx hb dX10_alibis_102 (lv_at hl 5 rfl) ?_
  refine lv_iload_n hx hb dX10_alibis_104 rfl (lv_at hl 1 rfl) ?_
  refine lv_icmp_ge (tgt := 231) hx hb dX10_alibis_105 (by decide) (fun cc1 => ?_) (fun cc1 => ?_)
  · have h := (if_pos cc1).symm.trans h
    refine lv_iload hx hb dX10_alibis_231 (lv_at hl 4 rfl) ?_
    obtain rfl := Option.some.inj h
    exact eI C0 hPD.1 hPD.2 hS rfl dX10_alibis_233
  · have h := (if_neg cc1).symm.trans h
    refine lv_aload_n hx hb dX10_alibis_108 rfl (lv_at hl 0 rfl) ?_
    refine lv_aload_n hx hb dX10_alibis_109 rfl (lv_at hl 0 rfl) ?_
    refine lv_iconst (v := 4) hx hb dX10_alibis_110 (by decide) ?_
    refine lv_iload hx hb dX10_alibis_111 (lv_at hl 5 rfl) ?_
    refine lv_imul hx hb dX10_alibis_113 ?_
    obtain ⟨q_2, hq_2, h⟩ := ob2 h
    refine kVI (As := [.int (4 * l5)]) (rest := [.ref h0]) C0 (kt_X10_octet l G h0 a0 f0 A0 (4 * l5) hq_2) gi_V_X10_360_X10_octet (n := 1) rfl (by decide +kernel) rfl ⟨rfl, rfl, Nat.le_of_ble_eq_true rfl, Nat.le_of_ble_eq_true rfl⟩ hPD hS 0 10 rfl rfl rfl [0, 1, 2, 3, 4, 5, 6, 7, 8, 9, 10, 11, 12, 13, 14, 15, 16, 17, 18, 19, 20, 21, 22, 23, 24, 25, 26, 27, 28, 29, 30, 31, 32, 33] [] [0, 1, 2, 3, 4, 5, 6, 7, 8, 9, 10, 11, 12, 13, 14, 15, 16, 17, 18, 19, 20, 21, 22, 23, 24, 25, 26, 27, 28, 29, 30, 31, 32, 33] (wN := (wX10 G h0 a0 f0 A0)) rfl rfl rfl rfl rfl hl.1 (Nat.le_of_ble_eq_true rfl) dX10_alibis_114 (fun H locs hPD hS => ?_)
    obtain ⟨q_3, hq_3, h⟩ := ob2 h
    refine kVV (As := [.int q_2]) (rest := []) C0 (kt_X10_laysSteps l G h0 a0 f0 A0 q_2 hq_3) gi_V_X10_344_X10_laysSteps (n := 1) rfl (by decide +kernel) rfl ⟨rfl, rfl, Nat.le_of_ble_eq_true rfl, Nat.le_of_ble_eq_true rfl⟩ hPD hS 0 10 rfl rfl rfl [0, 1, 2, 3, 4, 5, 6, 7, 8, 9, 10, 11, 12, 13, 14, 15, 16, 17, 18, 19, 20, 21, 22, 23, 24, 25, 26, 27, 28, 29, 30, 31, 32, 33] [] [0, 1, 2, 3, 4, 5, 6, 7, 8, 9, 10, 11, 12, 13, 14, 15, 16, 17, 18, 19, 20, 21, 22, 23, 24, 25, 26, 27, 28, 29, 30, 31, 32, 33] (wN := (wX10 G h0 a0 f0 q_3)) rfl rfl rfl rfl rfl hl.1 (Nat.le_of_ble_eq_true rfl) dX10_alibis_117 (fun H locs hPD hS => ?_)
    refine lv_aload_n hx hb dX10_alibis_120 rfl (lv_at hl 0 rfl) ?_
    refine lv_aload_n hx hb dX10_alibis_121 rfl (lv_at hl 0 rfl) ?_
    refine lv_iconst (v := 4) hx hb dX10_alibis_122 (by decide) ?_
    refine lv_iload hx hb dX10_alibis_123 (lv_at hl 5 rfl) ?_
    refine lv_imul hx hb dX10_alibis_125 ?_
    refine lv_iconst (v := 2) hx hb dX10_alibis_126 (by decide) ?_
    refine lv_iadd hx hb dX10_alibis_127 ?_
    obtain ⟨q_4, hq_4, h⟩ := ob2 h
    refine kVI (As := [.int ((4 * l5) + 2)]) (rest := [.ref h0]) C0 (kt_X10_octet l G h0 a0 f0 q_3 ((4 * l5) + 2) hq_4) gi_V_X10_360_X10_octet (n := 1) rfl (by decide +kernel) rfl ⟨rfl, rfl, Nat.le_of_ble_eq_true rfl, Nat.le_of_ble_eq_true rfl⟩ hPD hS 0 10 rfl rfl rfl [0, 1, 2, 3, 4, 5, 6, 7, 8, 9, 10, 11, 12, 13, 14, 15, 16, 17, 18, 19, 20, 21, 22, 23, 24, 25, 26, 27, 28, 29, 30, 31, 32, 33] [] [0, 1, 2, 3, 4, 5, 6, 7, 8, 9, 10, 11, 12, 13, 14, 15, 16, 17, 18, 19, 20, 21, 22, 23, 24, 25, 26, 27, 28, 29, 30, 31, 32, 33] (wN := (wX10 G h0 a0 f0 q_3)) rfl rfl rfl rfl rfl hl.1 (Nat.le_of_ble_eq_true rfl) dX10_alibis_128 (fun H locs hPD hS => ?_)
    obtain ⟨q_5, hq_5, h⟩ := ob2 h
    refine kVI (As := [.int q_4]) (rest := []) C0 (kt_X10_stepsOrFar l G h0 a0 f0 q_3 q_4 hq_5) gi_V_X10_363_X10_stepsOrFar (n := 1) rfl (by decide +kernel) rfl ⟨rfl, rfl, Nat.le_of_ble_eq_true rfl, Nat.le_of_ble_eq_true rfl⟩ hPD hS 0 10 rfl rfl rfl [0, 1, 2, 3, 4, 5, 6, 7, 8, 9, 10, 11, 12, 13, 14, 15, 16, 17, 18, 19, 20, 21, 22, 23, 24, 25, 26, 27, 28, 29, 30, 31, 32, 33] [] [0, 1, 2, 3, 4, 5, 6, 7, 8, 9, 10, 11, 12, 13, 14, 15, 16, 17, 18, 19, 20, 21, 22, 23, 24, 25, 26, 27, 28, 29, 30, 31, 32, 33] (wN := (wX10 G h0 a0 f0 q_3)) rfl rfl rfl rfl rfl hl.1 (Nat.le_of_ble_eq_true rfl) dX10_alibis_131 (fun H locs hPD hS => ?_)
    refine lv_istore (lv' := [(6, .int q_5), (0, .ref h0), (1, .int p1), (2, .int p2), (3, .int p3), (4, .int l4), (5, .int l5)]) hx hb dX10_alibis_134 hl (by decide) rfl (fun ls hl => ?_)
    refine lv_aload_n hx hb dX10_alibis_136 rfl (lv_at hl 1 rfl) ?_
    refine lv_iload_n hx hb dX10_alibis_137 rfl (lv_at hl 3 rfl) ?_
    obtain ⟨q_6, hq_6, h⟩ := ob2 h
    refine kVI (As := [.int p2]) (rest := []) C0 (kt_X10_stepsOrFar l G h0 a0 f0 q_3 p2 hq_6) gi_V_X10_363_X10_stepsOrFar (n := 1) rfl (by decide +kernel) rfl ⟨rfl, rfl, Nat.le_of_ble_eq_true rfl, Nat.le_of_ble_eq_true rfl⟩ hPD hS 0 10 rfl rfl rfl [0, 1, 2, 3, 4, 5, 6, 7, 8, 9, 10, 11, 12, 13, 14, 15, 16, 17, 18, 19, 20, 21, 22, 23, 24, 25, 26, 27, 28, 29, 30, 31, 32, 33] [] [0, 1, 2, 3, 4, 5, 6, 7, 8, 9, 10, 11, 12, 13, 14, 15, 16, 17, 18, 19, 20, 21, 22, 23, 24, 25, 26, 27, 28, 29, 30, 31, 32, 33] (wN := (wX10 G h0 a0 f0 q_3)) rfl rfl rfl rfl rfl hl.1 (Nat.le_of_ble_eq_true rfl) dX10_alibis_138 (fun H locs hPD hS => ?_)
    refine lv_istore (lv' := [(7, .int q_6), (6, .int q_5), (0, .ref h0), (1, .int p1), (2, .int p2), (3, .int p3), (4, .int l4), (5, .int l5)]) hx hb dX10_alibis_141 hl (by decide) rfl (fun ls hl => ?_)
    refine lv_aload_n hx hb dX10_alibis_143 rfl (lv_at hl 2 rfl) ?_
    refine lv_aload_n hx hb dX10_alibis_144 rfl (lv_at hl 2 rfl) ?_
    refine lv_iconst (v := 4) hx hb dX10_alibis_145 (by decide) ?_
    refine lv_iload hx hb dX10_alibis_146 (lv_at hl 7 rfl) ?_
    refine lv_imul hx hb dX10_alibis_148 ?_
    refine lv_iconst (v := 2) hx hb dX10_alibis_149 (by decide) ?_
    refine lv_iadd hx hb dX10_alibis_150 ?_
    obtain ⟨q_7, hq_7, h⟩ := ob2 h
    refine kVI (As := [.int ((4 * l5) + 2)]) (rest := [.ref h0]) C0 (kt_X10_octet l G h0 a0 f0 q_3 ((4 * l5) + 2) hq_7) gi_V_X10_360_X10_octet (n := 1) rfl (by decide +kernel) rfl ⟨rfl, rfl, Nat.le_of_ble_eq_true rfl, Nat.le_of_ble_eq_true rfl⟩ hPD hS 0 10 rfl rfl rfl [0, 1, 2, 3, 4, 5, 6, 7, 8, 9, 10, 11, 12, 13, 14, 15, 16, 17, 18, 19, 20, 21, 22, 23, 24, 25, 26, 27, 28, 29, 30, 31, 32, 33] [] [0, 1, 2, 3, 4, 5, 6, 7, 8, 9, 10, 11, 12, 13, 14, 15, 16, 17, 18, 19, 20, 21, 22, 23, 24, 25, 26, 27, 28, 29, 30, 31, 32, 33] (wN := (wX10 G h0 a0 f0 q_3)) rfl rfl rfl rfl rfl hl.1 (Nat.le_of_ble_eq_true rfl) dX10_alibis_151 (fun H locs hPD hS => ?_)
    obtain ⟨q_8, hq_8, h⟩ := ob2 h
    refine kVV (As := [.int q_7]) (rest := []) C0 (kt_X10_laysSteps l G h0 a0 f0 q_3 q_7 hq_8) gi_V_X10_344_X10_laysSteps (n := 1) rfl (by decide +kernel) rfl ⟨rfl, rfl, Nat.le_of_ble_eq_true rfl, Nat.le_of_ble_eq_true rfl⟩ hPD hS 0 10 rfl rfl rfl [0, 1, 2, 3, 4, 5, 6, 7, 8, 9, 10, 11, 12, 13, 14, 15, 16, 17, 18, 19, 20, 21, 22, 23, 24, 25, 26, 27, 28, 29, 30, 31, 32, 33] [] [0, 1, 2, 3, 4, 5, 6, 7, 8, 9, 10, 11, 12, 13, 14, 15, 16, 17, 18, 19, 20, 21, 22, 23, 24, 25, 26, 27, 28, 29, 30, 31, 32, 33] (wN := (wX10 G h0 a0 f0 q_8)) rfl rfl rfl rfl rfl hl.1 (Nat.le_of_ble_eq_true rfl) dX10_alibis_154 (fun H locs hPD hS => ?_)
    refine lv_aload_n hx hb dX10_alibis_157 rfl (lv_at hl 2 rfl) ?_
    refine lv_iload_n hx hb dX10_alibis_158 rfl (lv_at hl 4 rfl) ?_
    obtain ⟨q_9, hq_9, h⟩ := ob2 h
    refine kVI (As := [.int p2]) (rest := []) C0 (kt_X10_stepsOrFar l G h0 a0 f0 q_8 p2 hq_9) gi_V_X10_363_X10_stepsOrFar (n := 1) rfl (by decide +kernel) rfl ⟨rfl, rfl, Nat.le_of_ble_eq_true rfl, Nat.le_of_ble_eq_true rfl⟩ hPD hS 0 10 rfl rfl rfl [0, 1, 2, 3, 4, 5, 6, 7, 8, 9, 10, 11, 12, 13, 14, 15, 16, 17, 18, 19, 20, 21, 22, 23, 24, 25, 26, 27, 28, 29, 30, 31, 32, 33] [] [0, 1, 2, 3, 4, 5, 6, 7, 8, 9, 10, 11, 12, 13, 14, 15, 16, 17, 18, 19, 20, 21, 22, 23, 24, 25, 26, 27, 28, 29, 30, 31, 32, 33] (wN := (wX10 G h0 a0 f0 q_8)) rfl rfl rfl rfl rfl hl.1 (Nat.le_of_ble_eq_true rfl) dX10_alibis_159 (fun H locs hPD hS => ?_)
    refine lv_istore (lv' := [(8, .int q_9), (7, .int q_6), (6, .int q_5), (0, .ref h0), (1, .int p1), (2, .int p2), (3, .int p3), (4, .int l4), (5, .int l5)]) hx hb dX10_alibis_162 hl (by decide) rfl (fun ls hl => ?_)
    refine lv_aload_n hx hb dX10_alibis_164 rfl (lv_at hl 3 rfl) ?_
    refine lv_iconst (v := 4) hx hb dX10_alibis_165 (by decide) ?_
    refine lv_iload hx hb dX10_alibis_166 (lv_at hl 8 rfl) ?_
    refine lv_imul hx hb dX10_alibis_168 ?_
    refine lv_iconst (v := 1) hx hb dX10_alibis_169 (by decide) ?_
    refine lv_iadd hx hb dX10_alibis_170 ?_
    obtain ⟨q_10, hq_10, h⟩ := ob2 h
    refine kVI (As := [.int ((4 * l5) + 1)]) (rest := []) C0 (kt_X10_octet l G h0 a0 f0 q_8 ((4 * l5) + 1) hq_10) gi_V_X10_360_X10_octet (n := 1) rfl (by decide +kernel) rfl ⟨rfl, rfl, Nat.le_of_ble_eq_true rfl, Nat.le_of_ble_eq_true rfl⟩ hPD hS 0 10 rfl rfl rfl [0, 1, 2, 3, 4, 5, 6, 7, 8, 9, 10, 11, 12, 13, 14, 15, 16, 17, 18, 19, 20, 21, 22, 23, 24, 25, 26, 27, 28, 29, 30, 31, 32, 33] [] [0, 1, 2, 3, 4, 5, 6, 7, 8, 9, 10, 11, 12, 13, 14, 15, 16, 17, 18, 19, 20, 21, 22, 23, 24, 25, 26, 27, 28, 29, 30, 31, 32, 33] (wN := (wX10 G h0 a0 f0 q_8)) rfl rfl rfl rfl rfl hl.1 (Nat.le_of_ble_eq_true rfl) dX10_alibis_171 (fun H locs hPD hS => ?_)
    refine lv_istore (lv' := [(9, .int q_10), (8, .int q_9), (7, .int q_6), (6, .int q_5), (0, .ref h0), (1, .int p1), (2, .int p2), (3, .int p3), (4, .int l4), (5, .int l5)]) hx hb dX10_alibis_174 hl (by decide) rfl (fun ls hl => ?_)
    refine lv_aload_n hx hb dX10_alibis_176 rfl (lv_at hl 4 rfl) ?_
    refine lv_iconst (v := 4) hx hb dX10_alibis_177 (by decide) ?_
    refine lv_iload hx hb dX10_alibis_178 (lv_at hl 9 rfl) ?_
    refine lv_imul hx hb dX10_alibis_180 ?_
    refine lv_iconst (v := 3) hx hb dX10_alibis_181 (by decide) ?_
    refine lv_iadd hx hb dX10_alibis_182 ?_
    obtain ⟨q_11, hq_11, h⟩ := ob2 h
    refine kVI (As := [.int ((4 * l5) + 3)]) (rest := []) C0 (kt_X10_octet l G h0 a0 f0 q_8 ((4 * l5) + 3) hq_11) gi_V_X10_360_X10_octet (n := 1) rfl (by decide +kernel) rfl ⟨rfl, rfl, Nat.le_of_ble_eq_true rfl, Nat.le_of_ble_eq_true rfl⟩ hPD hS 0 10 rfl rfl rfl [0, 1, 2, 3, 4, 5, 6, 7, 8, 9, 10, 11, 12, 13, 14, 15, 16, 17, 18, 19, 20, 21, 22, 23, 24, 25, 26, 27, 28, 29, 30, 31, 32, 33] [] [0, 1, 2, 3, 4, 5, 6, 7, 8, 9, 10, 11, 12, 13, 14, 15, 16, 17, 18, 19, 20, 21, 22, 23, 24, 25, 26, 27, 28, 29, 30, 31, 32, 33] (wN := (wX10 G h0 a0 f0 q_8)) rfl rfl rfl rfl rfl hl.1 (Nat.le_of_ble_eq_true rfl) dX10_alibis_183 (fun H locs hPD hS => ?_)
    refine lv_istore (lv' := [(10, .int q_11), (9, .int q_10), (8, .int q_9), (7, .int q_6), (6, .int q_5), (0, .ref h0), (1, .int p1), (2, .int p2), (3, .int p3), (4, .int l4), (5, .int l5)]) hx hb dX10_alibis_186 hl (by decide) rfl (fun ls hl => ?_)
    refine lv_iload hx hb dX10_alibis_188 (lv_at hl 4 rfl) ?_
    refine lv_iload hx hb dX10_alibis_190 (lv_at hl 0 rfl) ?_
    refine lv_iload hx hb dX10_alibis_192 (lv_at hl 1 rfl) ?_
    refine lv_isub hx hb dX10_alibis_194 ?_
    refine lv_icmp_gt (tgt := 225) hx hb dX10_alibis_195 (by decide) (fun cc1 => ?_) (fun cc1 => ?_)
    · have h := (if_pos cc1).symm.trans h
      refine lv_iinc (v := l5 + 1) (lv' := [(5, .int (l5 + 1)), (10, .int q_11), (9, .int q_10), (8, .int q_9), (7, .int q_6), (6, .int q_5), (0, .ref h0), (1, .int p1), (2, .int p2), (3, .int p3), (4, .int l4)]) hx hb dX10_alibis_225 hl (k := 10) rfl rfl (by decide) rfl (fun ls hl => ?_)
      refine lv_goto (tgt := 102) hx hb dX10_alibis_228 (by decide) ?_
      exact hk102 q_8 f0 l4 (l5 + 1) h _ _ _ hPD hS (lv_sub hl [6, 7, 8, 9, 10, 0] rfl)
    · have h := (if_neg cc1).symm.trans h
      refine lv_iload hx hb dX10_alibis_198 (lv_at hl 3 rfl) ?_
      refine lv_iload_n hx hb dX10_alibis_200 rfl (lv_at hl 8 rfl) ?_
      refine lv_iload hx hb dX10_alibis_201 (lv_at hl 1 rfl) ?_
      refine lv_isub hx hb dX10_alibis_203 ?_
      refine lv_icmp_gt (tgt := 225) hx hb dX10_alibis_204 (by decide) (fun cc1 => ?_) (fun cc1 => ?_)
      · have h := (if_pos cc1).symm.trans h
        refine lv_iinc (v := l5 + 1) (lv' := [(5, .int (l5 + 1)), (10, .int q_11), (9, .int q_10), (8, .int q_9), (7, .int q_6), (6, .int q_5), (0, .ref h0), (1, .int p1), (2, .int p2), (3, .int p3), (4, .int l4)]) hx hb dX10_alibis_225 hl (k := 10) rfl rfl (by decide) rfl (fun ls hl => ?_)
        refine lv_goto (tgt := 102) hx hb dX10_alibis_228 (by decide) ?_
        exact hk102 q_8 f0 l4 (l5 + 1) h _ _ _ hPD hS (lv_sub hl [6, 7, 8, 9, 10, 0] rfl)
      · have h := (if_neg cc1).symm.trans h
        refine lv_iload hx hb dX10_alibis_207 (lv_at hl 2 rfl) ?_
        refine lv_iload hx hb dX10_alibis_209 (lv_at hl 0 rfl) ?_
        refine lv_iload_n hx hb dX10_alibis_211 rfl (lv_at hl 8 rfl) ?_
        refine lv_isub hx hb dX10_alibis_212 ?_
        refine lv_icmp_gt (tgt := 225) hx hb dX10_alibis_213 (by decide) (fun cc1 => ?_) (fun cc1 => ?_)
        · have h := (if_pos cc1).symm.trans h
          refine lv_iinc (v := l5 + 1) (lv' := [(5, .int (l5 + 1)), (10, .int q_11), (9, .int q_10), (8, .int q_9), (7, .int q_6), (6, .int q_5), (0, .ref h0), (1, .int p1), (2, .int p2), (3, .int p3), (4, .int l4)]) hx hb dX10_alibis_225 hl (k := 10) rfl rfl (by decide) rfl (fun ls hl => ?_)
          refine lv_goto (tgt := 102) hx hb dX10_alibis_228 (by decide) ?_
          exact hk102 q_8 f0 l4 (l5 + 1) h _ _ _ hPD hS (lv_sub hl [6, 7, 8, 9, 10, 0] rfl)
        · have h := (if_neg cc1).symm.trans h
          refine lv_iload hx hb dX10_alibis_216 (lv_at hl 9 rfl) ?_
          refine lv_iconst (v := 1) hx hb dX10_alibis_218 (by decide) ?_
          refine lv_iload hx hb dX10_alibis_219 (lv_at hl 10 rfl) ?_
          refine lv_ishl hx hb dX10_alibis_221 ?_
          refine lv_ior hx hb dX10_alibis_222 ?_
          refine lv_istore (lv' := [(4, .int (l4 ||| (shl 1 l5))), (10, .int q_11), (9, .int q_10), (8, .int q_9), (7, .int q_6), (6, .int q_5), (0, .ref h0), (1, .int p1), (2, .int p2), (3, .int p3), (5, .int l5)]) hx hb dX10_alibis_223 hl (by decide) rfl (fun ls hl => ?_)
          refine lv_iinc (v := l5 + 1) (lv' := [(5, .int (l5 + 1)), (4, .int (l4 ||| (shl 1 l5))), (10, .int q_11), (9, .int q_10), (8, .int q_9), (7, .int q_6), (6, .int q_5), (0, .ref h0), (1, .int p1), (2, .int p2), (3, .int p3)]) hx hb dX10_alibis_225 hl (k := 10) rfl rfl (by decide) rfl (fun ls hl => ?_)
          refine lv_goto (tgt := 102) hx hb dX10_alibis_228 (by decide) ?_
          exact hk102 q_8 f0 (l4 ||| (shl 1 l5)) (l5 + 1) h _ _ _ hPD hS (lv_sub hl [7, 8, 9, 10, 1, 0] rfl)
set_option maxRecDepth 100000 in
set_option maxHeartbeats 4000000 in
theorem ww_f10_alibis_l102  (C0 : Cx cX10_alibis 11 (some .int) RX10 p s m args meth c G DA) {h0 : Nat} {a0 : Nat → Nat} {p1 : Int32} {p2 : Int32} {p3 : Int32}   {res : Int32 × (Nat → Nat → Int32) × (Nat → Int32)}  : ∀ (n : Nat) (A0 : Nat → Nat → Int32) (f0 : Nat → Int32) (l4 : Int32) (l5 : Int32), f10_alibis_l102 p1 p2 p3  n A0 f0 l4 l5 = some res → ∀ (H : Heap) (locs : List Loc) (ls : Array Slot), WD G DA (wX10 G h0 a0 f0 A0) H → va_S DA s.heap H locs → lv_has ls 11 [(0, .ref h0), (1, .int p1), (2, .int p2), (3, .int p3), (4, .int l4), (5, .int l5)] → W p l e rmX10_alibis s m args below meth c H locs 0 0 (MQ below (QI G DA res.1 (wX10 G h0 a0 res.2.2 res.2.1)) args s 0 0 DA) (F0 m 102 ls []) := by
  intro n
  induction n with
  | zero => intro A0 f0 l4 l5 h; cases h
  | succ n ih => intro A0 f0 l4 l5 h; exact ww_f10_alibis_b102 C0  ih A0 f0 l4 l5 h
set_option maxRecDepth 100000 in
set_option maxHeartbeats 4000000 in
theorem ww_f10_alibis_b49  (C0 : Cx cX10_alibis 11 (some .int) RX10 p s m args meth c G DA) {h0 : Nat} {a0 : Nat → Nat} {p1 : Int32} {p2 : Int32} {p3 : Int32}  {k49 : (Nat → Nat → Int32) → (Nat → Int32) → Int32 → Option (Int32 × (Nat → Nat → Int32) × (Nat → Int32))} {res : Int32 × (Nat → Nat → Int32) × (Nat → Int32)}  (hk49 : ∀ (A0 : Nat → Nat → Int32) (f0 : Nat → Int32) (l4 : Int32), k49 A0 f0 l4 = some res → ∀ (H : Heap) (locs : List Loc) (ls : Array Slot), WD G DA (wX10 G h0 a0 f0 A0) H → va_S DA s.heap H locs → lv_has ls 11 [(0, .ref h0), (1, .int p1), (2, .int p2), (3, .int p3), (4, .int l4)] → W p l e rmX10_alibis s m args below meth c H locs 0 0 (MQ below (QI G DA res.1 (wX10 G h0 a0 res.2.2 res.2.1)) args s 0 0 DA) (F0 m 49 ls [])) : ∀ (A0 : Nat → Nat → Int32) (f0 : Nat → Int32) (l4 : Int32), f10_alibis_b49 p1 p2 p3  k49 A0 f0 l4 = some res → ∀ (H : Heap) (locs : List Loc) (ls : Array Slot), WD G DA (wX10 G h0 a0 f0 A0) H → va_S DA s.heap H locs → lv_has ls 11 [(0, .ref h0), (1, .int p1), (2, .int p2), (3, .int p3), (4, .int l4)] → W p l e rmX10_alibis s m args below meth c H locs 0 0 (MQ below (QI G DA res.1 (wX10 G h0 a0 res.2.2 res.2.1)) args s 0 0 DA) (F0 m 49 ls []) := by
  obtain ⟨hx, hb, hml, hown, hts⟩ := C0.1
  have hK := C0.2.2.2.1
  intro A0 f0 l4 h _ _ _ hPD hS hl
  unfold f10_alibis_b49 at h
  refine lv_iload hx hb dX10_alibis_49 (lv_at hl 4 rfl) ?_
  refine lv_iload_n hx hb dX10_alibis_51 rfl (lv_at hl 1 rfl) ?_
  refine lv_icmp_ge (tgt := 96) hx hb dX10_alibis_52 (by decide) (fun cc1 => ?_) (fun cc1 => ?_)
  · have h := (if_pos cc1).symm.trans h
    refine lv_iconst (v := 0) hx hb dX10_alibis_96 (by decide) ?_
    refine lv_istore (lv' := [(4, .int 0), (0, .ref h0), (1, .int p1), (2, .int p2), (3, .int p3)]) hx hb dX10_alibis_97 hl (by decide) rfl (fun ls hl => ?_)
    refine lv_iconst (v := 0) hx hb dX10_alibis_99 (by decide) ?_
    refine lv_istore (lv' := [(5, .int 0), (4, .int 0), (0, .ref h0), (1, .int p1), (2, .int p2), (3, .int p3)]) hx hb dX10_alibis_100 hl (by decide) rfl (fun ls hl => ?_)
    exact ww_f10_alibis_l102 C0 NF A0 f0 0 0 h _ _ _ hPD hS (lv_sub hl [2, 3, 4, 5, 1, 0] rfl)
  · have h := (if_neg cc1).symm.trans h
    refine lv_aload_n hx hb dX10_alibis_55 rfl (lv_at hl 0 rfl) ?_
    refine lv_aload_n hx hb dX10_alibis_56 rfl (lv_at hl 0 rfl) ?_
    refine lv_iconst (v := 4) hx hb dX10_alibis_57 (by decide) ?_
    refine lv_iload hx hb dX10_alibis_58 (lv_at hl 4 rfl) ?_
    refine lv_imul hx hb dX10_alibis_60 ?_
    obtain ⟨q_12, hq_12, h⟩ := ob2 h
    refine kVI (As := [.int (4 * l4)]) (rest := [.ref h0]) C0 (kt_X10_octet l G h0 a0 f0 A0 (4 * l4) hq_12) gi_V_X10_360_X10_octet (n := 1) rfl (by decide +kernel) rfl ⟨rfl, rfl, Nat.le_of_ble_eq_true rfl, Nat.le_of_ble_eq_true rfl⟩ hPD hS 0 10 rfl rfl rfl [0, 1, 2, 3, 4, 5, 6, 7, 8, 9, 10, 11, 12, 13, 14, 15, 16, 17, 18, 19, 20, 21, 22, 23, 24, 25, 26, 27, 28, 29, 30, 31, 32, 33] [] [0, 1, 2, 3, 4, 5, 6, 7, 8, 9, 10, 11, 12, 13, 14, 15, 16, 17, 18, 19, 20, 21, 22, 23, 24, 25, 26, 27, 28, 29, 30, 31, 32, 33] (wN := (wX10 G h0 a0 f0 A0)) rfl rfl rfl rfl rfl hl.1 (Nat.le_of_ble_eq_true rfl) dX10_alibis_61 (fun H locs hPD hS => ?_)
    refine kVI (As := [.int q_12]) (rest := []) C0 (kt_X10_isTold l G h0 a0 f0 A0 q_12) gi_V_X10_128_X10_isTold (n := 1) rfl (by decide +kernel) rfl ⟨rfl, rfl, Nat.le_of_ble_eq_true rfl, Nat.le_of_ble_eq_true rfl⟩ hPD hS 0 10 rfl rfl rfl [0, 1, 2, 3, 4, 5, 6, 7, 8, 9, 10, 11, 12, 13, 14, 15, 16, 17, 18, 19, 20, 21, 22, 23, 24, 25, 26, 27, 28, 29, 30, 31, 32, 33] [] [0, 1, 2, 3, 4, 5, 6, 7, 8, 9, 10, 11, 12, 13, 14, 15, 16, 17, 18, 19, 20, 21, 22, 23, 24, 25, 26, 27, 28, 29, 30, 31, 32, 33] (wN := (wX10 G h0 a0 f0 A0)) rfl rfl rfl rfl rfl hl.1 (Nat.le_of_ble_eq_true rfl) dX10_alibis_64 (fun H locs hPD hS => ?_)
    refine lv_if_eq (tgt := 87) hx hb dX10_alibis_67 (by decide) (fun cc1 => ?_) (fun cc1 => ?_)
    · have h := (if_pos cc1).symm.trans h
      refine lv_bipush (v := (-2)) hx hb dX10_alibis_87 (by decide) ?_
      obtain rfl := Option.some.inj h
      exact eI C0 hPD.1 hPD.2 hS rfl dX10_alibis_89
    · have h := (if_neg cc1).symm.trans h
      refine lv_aload_n hx hb dX10_alibis_70 rfl (lv_at hl 0 rfl) ?_
      refine lv_aload_n hx hb dX10_alibis_71 rfl (lv_at hl 0 rfl) ?_
      refine lv_iconst (v := 4) hx hb dX10_alibis_72 (by decide) ?_
      refine lv_iload hx hb dX10_alibis_73 (lv_at hl 4 rfl) ?_
      refine lv_imul hx hb dX10_alibis_75 ?_
      refine lv_iconst (v := 2) hx hb dX10_alibis_76 (by decide) ?_
      refine lv_iadd hx hb dX10_alibis_77 ?_
      obtain ⟨q_13, hq_13, h⟩ := ob2 h
      refine kVI (As := [.int ((4 * l4) + 2)]) (rest := [.ref h0]) C0 (kt_X10_octet l G h0 a0 f0 A0 ((4 * l4) + 2) hq_13) gi_V_X10_360_X10_octet (n := 1) rfl (by decide +kernel) rfl ⟨rfl, rfl, Nat.le_of_ble_eq_true rfl, Nat.le_of_ble_eq_true rfl⟩ hPD hS 0 10 rfl rfl rfl [0, 1, 2, 3, 4, 5, 6, 7, 8, 9, 10, 11, 12, 13, 14, 15, 16, 17, 18, 19, 20, 21, 22, 23, 24, 25, 26, 27, 28, 29, 30, 31, 32, 33] [] [0, 1, 2, 3, 4, 5, 6, 7, 8, 9, 10, 11, 12, 13, 14, 15, 16, 17, 18, 19, 20, 21, 22, 23, 24, 25, 26, 27, 28, 29, 30, 31, 32, 33] (wN := (wX10 G h0 a0 f0 A0)) rfl rfl rfl rfl rfl hl.1 (Nat.le_of_ble_eq_true rfl) dX10_alibis_78 (fun H locs hPD hS => ?_)
      refine kVI (As := [.int q_13]) (rest := []) C0 (kt_X10_isTold l G h0 a0 f0 A0 q_13) gi_V_X10_128_X10_isTold (n := 1) rfl (by decide +kernel) rfl ⟨rfl, rfl, Nat.le_of_ble_eq_true rfl, Nat.le_of_ble_eq_true rfl⟩ hPD hS 0 10 rfl rfl rfl [0, 1, 2, 3, 4, 5, 6, 7, 8, 9, 10, 11, 12, 13, 14, 15, 16, 17, 18, 19, 20, 21, 22, 23, 24, 25, 26, 27, 28, 29, 30, 31, 32, 33] [] [0, 1, 2, 3, 4, 5, 6, 7, 8, 9, 10, 11, 12, 13, 14, 15, 16, 17, 18, 19, 20, 21, 22, 23, 24, 25, 26, 27, 28, 29, 30, 31, 32, 33] (wN := (wX10 G h0 a0 f0 A0)) rfl rfl rfl rfl rfl hl.1 (Nat.le_of_ble_eq_true rfl) dX10_alibis_81 (fun H locs hPD hS => ?_)
      refine lv_if_ne (tgt := 90) hx hb dX10_alibis_84 (by decide) (fun cc1 => ?_) (fun cc1 => ?_)
      · have h := (if_neg cc1).symm.trans h
        refine lv_iinc (v := l4 + 1) (lv' := [(4, .int (l4 + 1)), (0, .ref h0), (1, .int p1), (2, .int p2), (3, .int p3)]) hx hb dX10_alibis_90 hl (k := 4) rfl rfl (by decide) rfl (fun ls hl => ?_)
        refine lv_goto (tgt := 49) hx hb dX10_alibis_93 (by decide) ?_
        exact hk49 A0 f0 (l4 + 1) h _ _ _ hPD hS (lv_sub hl [1, 2, 3, 4, 0] rfl)
      · have h := (if_pos cc1).symm.trans h
        refine lv_bipush (v := (-2)) hx hb dX10_alibis_87 (by decide) ?_
        obtain rfl := Option.some.inj h
        exact eI C0 hPD.1 hPD.2 hS rfl dX10_alibis_89
set_option maxRecDepth 100000 in
set_option maxHeartbeats 4000000 in
theorem ww_f10_alibis_l49  (C0 : Cx cX10_alibis 11 (some .int) RX10 p s m args meth c G DA) {h0 : Nat} {a0 : Nat → Nat} {p1 : Int32} {p2 : Int32} {p3 : Int32}   {res : Int32 × (Nat → Nat → Int32) × (Nat → Int32)}  : ∀ (n : Nat) (A0 : Nat → Nat → Int32) (f0 : Nat → Int32) (l4 : Int32), f10_alibis_l49 p1 p2 p3  n A0 f0 l4 = some res → ∀ (H : Heap) (locs : List Loc) (ls : Array Slot), WD G DA (wX10 G h0 a0 f0 A0) H → va_S DA s.heap H locs → lv_has ls 11 [(0, .ref h0), (1, .int p1), (2, .int p2), (3, .int p3), (4, .int l4)] → W p l e rmX10_alibis s m args below meth c H locs 0 0 (MQ below (QI G DA res.1 (wX10 G h0 a0 res.2.2 res.2.1)) args s 0 0 DA) (F0 m 49 ls []) := by
  intro n
  induction n with
  | zero => intro A0 f0 l4 h; cases h
  | succ n ih => intro A0 f0 l4 h; exact ww_f10_alibis_b49 C0  ih A0 f0 l4 h
set_option maxRecDepth 100000 in
set_option maxHeartbeats 4000000 in
theorem kt_X10_alibis (l : Launch) (G : Gp) (h0 : Nat) (a0 : Nat → Nat) (f0 : Nat → Int32) (A0 : Nat → Nat → Int32) (p1 : Int32) (p2 : Int32) (p3 : Int32) : ∀ {r : Int32 × (Nat → Nat → Int32) × (Nat → Int32)}, f10_alibis f0 A0 p1 p2 p3 = some r → CtrI l yX10_alibis cX10_alibis 11 (some .int) rmX10_alibis G [.ref h0, .int p1, .int p2, .int p3] (wX10 G h0 a0 f0 A0) r.1 (wX10 G h0 a0 r.2.2 r.2.1) := by
  intro res h
  refine ctrI_of (cc := cX10_alibis) (maxL := 11) (ret := (some .int)) (by decide +kernel) rfl (Nat.le_of_ble_eq_true rfl) (fun p e s m below meth c DA C0 hP hD ls hl => ?_)
  have hPD : WD G DA (wX10 G h0 a0 f0 A0) s.heap := ⟨hP, hD⟩
  have hS : va_S DA s.heap s.heap [] := va_S.rf
  have hl : lv_has ls 11 [(0, .ref h0), (1, .int p1), (2, .int p2), (3, .int p3)] := hl
  obtain ⟨hx, hb, hml, hown, hts⟩ := C0.1
  have hK := C0.2.2.2.1
  unfold f10_alibis at h
  refine lv_iload_n hx hb dX10_alibis_0 rfl (lv_at hl 1 rfl) ?_
  refine lv_iconst (v := 1) hx hb dX10_alibis_1 (by decide) ?_
  refine lv_bipush (v := 10) hx hb dX10_alibis_2 (by decide) ?_
  refine kSI (As := [.int p1, .int 1, .int 10]) (rest := []) C0 (kt_X10_in l G  p1 1 10) gi_S_X10_112_X10_in (n := 3) rfl (by decide +kernel) ⟨rfl, rfl, Nat.le_of_ble_eq_true rfl, Nat.le_of_ble_eq_true rfl⟩ hPD hS [] [0, 1, 2, 3, 4, 5, 6, 7, 8, 9, 10, 11, 12, 13, 14, 15, 16, 17, 18, 19, 20, 21, 22, 23, 24, 25, 26, 27, 28, 29, 30, 31, 32, 33] [0, 1, 2, 3, 4, 5, 6, 7, 8, 9, 10, 11, 12, 13, 14, 15, 16, 17, 18, 19, 20, 21, 22, 23, 24, 25, 26, 27, 28, 29, 30, 31, 32, 33] (wN := (wX10 G h0 a0 f0 A0)) rfl rfl rfl rfl rfl hl.1 (Nat.le_of_ble_eq_true rfl) dX10_alibis_4 (fun H locs hPD hS => ?_)
  refine lv_if_eq (tgt := 39) hx hb dX10_alibis_7 (by decide) (fun cc1 => ?_) (fun cc1 => ?_)
  · have h := (if_pos cc1).symm.trans h
    refine lv_iconst (v := (-1)) hx hb dX10_alibis_39 (by decide) ?_
    obtain rfl := Option.some.inj h
    exact eI C0 hPD.1 hPD.2 hS rfl dX10_alibis_40
  · have h := (if_neg cc1).symm.trans h
    refine lv_aload_n hx hb dX10_alibis_10 rfl (lv_at hl 0 rfl) ?_
    refine lv_iload_n hx hb dX10_alibis_11 rfl (lv_at hl 2 rfl) ?_
    refine kVI (As := [.int p2]) (rest := []) C0 (kt_X10_isTold l G h0 a0 f0 A0 p2) gi_V_X10_128_X10_isTold (n := 1) rfl (by decide +kernel) rfl ⟨rfl, rfl, Nat.le_of_ble_eq_true rfl, Nat.le_of_ble_eq_true rfl⟩ hPD hS 0 10 rfl rfl rfl [0, 1, 2, 3, 4, 5, 6, 7, 8, 9, 10, 11, 12, 13, 14, 15, 16, 17, 18, 19, 20, 21, 22, 23, 24, 25, 26, 27, 28, 29, 30, 31, 32, 33] [] [0, 1, 2, 3, 4, 5, 6, 7, 8, 9, 10, 11, 12, 13, 14, 15, 16, 17, 18, 19, 20, 21, 22, 23, 24, 25, 26, 27, 28, 29, 30, 31, 32, 33] (wN := (wX10 G h0 a0 f0 A0)) rfl rfl rfl rfl rfl hl.1 (Nat.le_of_ble_eq_true rfl) dX10_alibis_12 (fun H locs hPD hS => ?_)
    refine lv_if_eq (tgt := 39) hx hb dX10_alibis_15 (by decide) (fun cc1 => ?_) (fun cc1 => ?_)
    · have h := (if_pos cc1).symm.trans h
      refine lv_iconst (v := (-1)) hx hb dX10_alibis_39 (by decide) ?_
      obtain rfl := Option.some.inj h
      exact eI C0 hPD.1 hPD.2 hS rfl dX10_alibis_40
    · have h := (if_neg cc1).symm.trans h
      refine lv_iload_n hx hb dX10_alibis_18 rfl (lv_at hl 3 rfl) ?_
      refine lv_iconst (v := 0) hx hb dX10_alibis_19 (by decide) ?_
      refine lv_sipush (v := 255) hx hb dX10_alibis_20 (by decide) ?_
      refine kSI (As := [.int p3, .int 0, .int 255]) (rest := []) C0 (kt_X10_in l G  p3 0 255) gi_S_X10_112_X10_in (n := 3) rfl (by decide +kernel) ⟨rfl, rfl, Nat.le_of_ble_eq_true rfl, Nat.le_of_ble_eq_true rfl⟩ hPD hS [] [0, 1, 2, 3, 4, 5, 6, 7, 8, 9, 10, 11, 12, 13, 14, 15, 16, 17, 18, 19, 20, 21, 22, 23, 24, 25, 26, 27, 28, 29, 30, 31, 32, 33] [0, 1, 2, 3, 4, 5, 6, 7, 8, 9, 10, 11, 12, 13, 14, 15, 16, 17, 18, 19, 20, 21, 22, 23, 24, 25, 26, 27, 28, 29, 30, 31, 32, 33] (wN := (wX10 G h0 a0 f0 A0)) rfl rfl rfl rfl rfl hl.1 (Nat.le_of_ble_eq_true rfl) dX10_alibis_23 (fun H locs hPD hS => ?_)
      refine lv_if_eq (tgt := 39) hx hb dX10_alibis_26 (by decide) (fun cc1 => ?_) (fun cc1 => ?_)
      · have h := (if_pos cc1).symm.trans h
        refine lv_iconst (v := (-1)) hx hb dX10_alibis_39 (by decide) ?_
        obtain rfl := Option.some.inj h
        exact eI C0 hPD.1 hPD.2 hS rfl dX10_alibis_40
      · have h := (if_neg cc1).symm.trans h
        refine lv_iconst (v := 4) hx hb dX10_alibis_29 (by decide) ?_
        refine lv_iload_n hx hb dX10_alibis_30 rfl (lv_at hl 1 rfl) ?_
        refine lv_imul hx hb dX10_alibis_31 ?_
        refine lv_aload_n hx hb dX10_alibis_32 rfl (lv_at hl 0 rfl) ?_
        refine va_get (D := G.1) (ci := 10) (v := .int (f0 8)) (C := RX10) (T := TX10) (N := 52) hx hb hts inlX10 hown hK hPD.1 0 rfl rfl 8 (by decide) (hts _ gw_549) (fun _ h9 => h9) rfl dX10_alibis_33 ?_
        refine lv_icmp_le (tgt := 41) hx hb dX10_alibis_36 (by decide) (fun cc1 => ?_) (fun cc1 => ?_)
        · have h := (if_pos cc1).symm.trans h
          refine lv_aload_n hx hb dX10_alibis_41 rfl (lv_at hl 0 rfl) ?_
          refine lv_iconst (v := 0) hx hb dX10_alibis_42 (by decide) ?_
          refine va_put (D := G.1) (ci := 10) (v := .int 0) (ty := .int) (C := RX10) (T := TX10) (N := 52) hx hb hts inlX10 tyX10 tyX10_ok nmX10 hown hK hPD.1 hPD.2 hS 0 rfl rfl 8 (by decide) (hts _ gw_549) (fun _ h9 => h9) rfl (by decide +kernel) rfl rfl (Nat.le_of_ble_eq_true rfl) dX10_alibis_43 (fun H locs hP hD hS => ?_)
          obtain ⟨f0_1, ef0_1, h⟩ := lvl h
          have hPD : WD G DA (wX10 G h0 a0 f0_1 A0) H := by rw [ef0_1]; exact ⟨hP, hD⟩
          clear ef0_1 hP hD
          refine lv_iconst (v := 0) hx hb dX10_alibis_46 (by decide) ?_
          refine lv_istore (lv' := [(4, .int 0), (0, .ref h0), (1, .int p1), (2, .int p2), (3, .int p3)]) hx hb dX10_alibis_47 hl (by decide) rfl (fun ls hl => ?_)
          exact ww_f10_alibis_l49 C0 NF A0 f0_1 0 h _ _ _ hPD hS (lv_sub hl [1, 2, 3, 4, 0] rfl)
        · have h := (if_neg cc1).symm.trans h
          refine lv_iconst (v := (-1)) hx hb dX10_alibis_39 (by decide) ?_
          obtain rfl := Option.some.inj h
          exact eI C0 hPD.1 hPD.2 hS rfl dX10_alibis_40
abbrev rmX10_laysRanks : Room := { frames := 1, cells := 0, slots := 0, locals := 21 }
set_option maxRecDepth 100000 in
set_option maxHeartbeats 4000000 in
theorem ww_f10_laysRanks_b13  (C0 : Cx cX10_laysRanks 7 (some .boolean) RX10 p s m args meth c G DA) {h0 : Nat} {a0 : Nat → Nat} {f0 : Nat → Int32} {p1 : Int32} {p2 : Int32}  {k2 : (Nat → Nat → Int32) → Int32 → Option (Int32 × (Nat → Nat → Int32))} {k13 : (Nat → Nat → Int32) → Int32 → Int32 → Int32 → Option (Int32 × (Nat → Nat → Int32))} {res : Int32 × (Nat → Nat → Int32)} (hk2 : ∀ (A0 : Nat → Nat → Int32) (l3 : Int32), k2 A0 l3 = some res → ∀ (H : Heap) (locs : List Loc) (ls : Array Slot), WD G DA (wX10 G h0 a0 f0 A0) H → va_S DA s.heap H locs → lv_has ls 7 [(0, .ref h0), (1, .int p1), (2, .int p2), (3, .int l3)] → W p l e rmX10_laysRanks s m args below meth c H locs 0 0 (MQ below (QI G DA res.1 (wX10 G h0 a0 f0 res.2)) args s 0 0 DA) (F0 m 2 ls [])) (hk13 : ∀ (A0 : Nat → Nat → Int32) (l3 : Int32) (l4 : Int32) (l5 : Int32), k13 A0 l3 l4 l5 = some res → ∀ (H : Heap) (locs : List Loc) (ls : Array Slot), WD G DA (wX10 G h0 a0 f0 A0) H → va_S DA s.heap H locs → lv_has ls 7 [(0, .ref h0), (1, .int p1), (2, .int p2), (3, .int l3), (4, .int l4), (5, .int l5)] → W p l e rmX10_laysRanks s m args below meth c H locs 0 0 (MQ below (QI G DA res.1 (wX10 G h0 a0 f0 res.2)) args s 0 0 DA) (F0 m 13 ls [])) : ∀ (A0 : Nat → Nat → Int32) (l3 : Int32) (l4 : Int32) (l5 : Int32), f10_laysRanks_b13 f0 p1 p2 k2 k13 A0 l3 l4 l5 = some res → ∀ (H : Heap) (locs : List Loc) (ls : Array Slot), WD G DA (wX10 G h0 a0 f0 A0) H → va_S DA s.heap H locs → lv_has ls 7 [(0, .ref h0), (1, .int p1), (2, .int p2), (3, .int l3), (4, .int l4), (5, .int l5)] → W p l e rmX10_laysRanks s m args below meth c H locs 0 0 (MQ below (QI G DA res.1 (wX10 G h0 a0 f0 res.2)) args s 0 0 DA) (F0 m 13 ls []) := by
  obtain ⟨hx, hb, hml, hown, hts⟩ := C0.1
  have hK := C0.2.2.2.1
  intro A0 l3 l4 l5 h _ _ _ hPD hS hl
  unfold f10_laysRanks_b13 at h
  refine lv_iload hx hb dX10_laysRanks_13 (lv_at hl 5 rfl) ?_
  refine lv_iload_n hx hb dX10_laysRanks_15 rfl (lv_at hl 1 rfl) ?_
  refine lv_icmp_ge (tgt := 78) hx hb dX10_laysRanks_16 (by decide) (fun cc1 => ?_) (fun cc1 => ?_)
  · have h := (if_pos cc1).symm.trans h
    refine lv_iinc (v := l3 + 1) (lv' := [(3, .int (l3 + 1)), (0, .ref h0), (1, .int p1), (2, .int p2), (4, .int l4), (5, .int l5)]) hx hb dX10_laysRanks_78 hl (k := 3) rfl rfl (by decide) rfl (fun ls hl => ?_)
    refine lv_goto (tgt := 2) hx hb dX10_laysRanks_81 (by decide) ?_
    exact hk2 A0 (l3 + 1) h _ _ _ hPD hS (lv_sub hl [1, 2, 3, 0] rfl)
  · have h := (if_neg cc1).symm.trans h
    refine lv_aload_n hx hb dX10_laysRanks_19 rfl (lv_at hl 0 rfl) ?_
    refine lv_iload_n hx hb dX10_laysRanks_20 rfl (lv_at hl 1 rfl) ?_
    refine lv_iload_n hx hb dX10_laysRanks_21 rfl (lv_at hl 3 rfl) ?_
    refine lv_imul hx hb dX10_laysRanks_22 ?_
    refine lv_iload hx hb dX10_laysRanks_23 (lv_at hl 5 rfl) ?_
    refine lv_iadd hx hb dX10_laysRanks_25 ?_
    obtain ⟨q_1, hq_1, h⟩ := ob2 h
    refine kVI (As := [.int ((p1 * l3) + l5)]) (rest := []) C0 (kt_X10_octet l G h0 a0 f0 A0 ((p1 * l3) + l5) hq_1) gi_V_X10_360_X10_octet (n := 1) rfl (by decide +kernel) rfl ⟨rfl, rfl, Nat.le_of_ble_eq_true rfl, Nat.le_of_ble_eq_true rfl⟩ hPD hS 0 10 rfl rfl rfl [0, 1, 2, 3, 4, 5, 6, 7, 8, 9, 10, 11, 12, 13, 14, 15, 16, 17, 18, 19, 20, 21, 22, 23, 24, 25, 26, 27, 28, 29, 30, 31, 32, 33] [] [0, 1, 2, 3, 4, 5, 6, 7, 8, 9, 10, 11, 12, 13, 14, 15, 16, 17, 18, 19, 20, 21, 22, 23, 24, 25, 26, 27, 28, 29, 30, 31, 32, 33] (wN := (wX10 G h0 a0 f0 A0)) rfl rfl rfl rfl rfl hl.1 (Nat.le_of_ble_eq_true rfl) dX10_laysRanks_26 (fun H locs hPD hS => ?_)
    refine lv_istore (lv' := [(6, .int q_1), (0, .ref h0), (1, .int p1), (2, .int p2), (3, .int l3), (4, .int l4), (5, .int l5)]) hx hb dX10_laysRanks_29 hl (by decide) rfl (fun ls hl => ?_)
    refine lv_iload hx hb dX10_laysRanks_31 (lv_at hl 0 rfl) ?_
    refine lv_iload_n hx hb dX10_laysRanks_33 rfl (lv_at hl 2 rfl) ?_
    refine lv_icmp_ge (tgt := 47) hx hb dX10_laysRanks_34 (by decide) (fun cc1 => ?_) (fun cc1 => ?_)
    · have h := (if_pos cc1).symm.trans h
      refine lv_iconst (v := 0) hx hb dX10_laysRanks_47 (by decide) ?_
      obtain rfl := Option.some.inj h
      exact eZ C0 hPD.1 hPD.2 hS rfl rfl dX10_laysRanks_48
    · have h := (if_neg cc1).symm.trans h
      refine lv_iload hx hb dX10_laysRanks_37 (lv_at hl 5 rfl) ?_
      refine lv_iload hx hb dX10_laysRanks_39 (lv_at hl 0 rfl) ?_
      refine kSI (As := [.int l4, .int q_1]) (rest := []) C0 (kt_X10_has l G  l4 q_1) gi_S_X10_120_X10_has (n := 2) rfl (by decide +kernel) ⟨rfl, rfl, Nat.le_of_ble_eq_true rfl, Nat.le_of_ble_eq_true rfl⟩ hPD hS [] [0, 1, 2, 3, 4, 5, 6, 7, 8, 9, 10, 11, 12, 13, 14, 15, 16, 17, 18, 19, 20, 21, 22, 23, 24, 25, 26, 27, 28, 29, 30, 31, 32, 33] [0, 1, 2, 3, 4, 5, 6, 7, 8, 9, 10, 11, 12, 13, 14, 15, 16, 17, 18, 19, 20, 21, 22, 23, 24, 25, 26, 27, 28, 29, 30, 31, 32, 33] (wN := (wX10 G h0 a0 f0 A0)) rfl rfl rfl rfl rfl hl.1 (Nat.le_of_ble_eq_true rfl) dX10_laysRanks_41 (fun H locs hPD hS => ?_)
      refine lv_if_eq (tgt := 49) hx hb dX10_laysRanks_44 (by decide) (fun cc1 => ?_) (fun cc1 => ?_)
      · have h := (if_pos cc1).symm.trans h
        refine lv_iload hx hb dX10_laysRanks_49 (lv_at hl 5 rfl) ?_
        refine lv_iconst (v := 1) hx hb dX10_laysRanks_51 (by decide) ?_
        refine lv_iload hx hb dX10_laysRanks_52 (lv_at hl 0 rfl) ?_
        refine lv_ishl hx hb dX10_laysRanks_54 ?_
        refine lv_ior hx hb dX10_laysRanks_55 ?_
        refine lv_istore (lv' := [(4, .int (l4 ||| (shl 1 q_1))), (6, .int q_1), (0, .ref h0), (1, .int p1), (2, .int p2), (3, .int l3), (5, .int l5)]) hx hb dX10_laysRanks_56 hl (by decide) rfl (fun ls hl => ?_)
        refine lv_aload_n hx hb dX10_laysRanks_58 rfl (lv_at hl 2 rfl) ?_
        refine va_get (D := G.1) (ci := 10) (v := .ref (a0 50)) (C := RX10) (T := TX10) (N := 52) hx hb hts inlX10 hown hK hPD.1 0 rfl rfl 50 (by decide) (hts _ gw_820) (fun _ h9 => h9) rfl dX10_laysRanks_59 ?_
        refine lv_bipush (v := 6) hx hb dX10_laysRanks_62 (by decide) ?_
        refine lv_iload_n hx hb dX10_laysRanks_64 rfl (lv_at hl 5 rfl) ?_
        refine lv_imul hx hb dX10_laysRanks_65 ?_
        refine lv_iload hx hb dX10_laysRanks_66 (lv_at hl 1 rfl) ?_
        refine lv_iadd hx hb dX10_laysRanks_68 ?_
        refine lv_iload hx hb dX10_laysRanks_69 (lv_at hl 6 rfl) ?_
        obtain ⟨hi_2, h⟩ := ob h
        refine va_iast hx hb hK hPD.1 hPD.2 hS 33 1 rfl rfl hi_2 dX10_laysRanks_71 (fun H locs hP hD hS => ?_)
        obtain ⟨A0_3, eA0_3, h⟩ := lvl h
        have hPD : WD G DA (wX10 G h0 a0 f0 A0_3) H := by rw [eA0_3]; exact ⟨hP, hD⟩
        clear eA0_3 hP hD
        refine lv_iinc (v := l5 + 1) (lv' := [(5, .int (l5 + 1)), (4, .int (l4 ||| (shl 1 q_1))), (6, .int q_1), (0, .ref h0), (1, .int p1), (2, .int p2), (3, .int l3)]) hx hb dX10_laysRanks_72 hl (k := 6) rfl rfl (by decide) rfl (fun ls hl => ?_)
        refine lv_goto (tgt := 13) hx hb dX10_laysRanks_75 (by decide) ?_
        exact hk13 A0_3 l3 (l4 ||| (shl 1 q_1)) (l5 + 1) h _ _ _ hPD hS (lv_sub hl [3, 4, 5, 6, 1, 0] rfl)
      · have h := (if_neg cc1).symm.trans h
        refine lv_iconst (v := 0) hx hb dX10_laysRanks_47 (by decide) ?_
        obtain rfl := Option.some.inj h
        exact eZ C0 hPD.1 hPD.2 hS rfl rfl dX10_laysRanks_48
set_option maxRecDepth 100000 in
set_option maxHeartbeats 4000000 in
theorem ww_f10_laysRanks_l13  (C0 : Cx cX10_laysRanks 7 (some .boolean) RX10 p s m args meth c G DA) {h0 : Nat} {a0 : Nat → Nat} {f0 : Nat → Int32} {p1 : Int32} {p2 : Int32}  {k2 : (Nat → Nat → Int32) → Int32 → Option (Int32 × (Nat → Nat → Int32))} {res : Int32 × (Nat → Nat → Int32)} (hk2 : ∀ (A0 : Nat → Nat → Int32) (l3 : Int32), k2 A0 l3 = some res → ∀ (H : Heap) (locs : List Loc) (ls : Array Slot), WD G DA (wX10 G h0 a0 f0 A0) H → va_S DA s.heap H locs → lv_has ls 7 [(0, .ref h0), (1, .int p1), (2, .int p2), (3, .int l3)] → W p l e rmX10_laysRanks s m args below meth c H locs 0 0 (MQ below (QI G DA res.1 (wX10 G h0 a0 f0 res.2)) args s 0 0 DA) (F0 m 2 ls [])) : ∀ (n : Nat) (A0 : Nat → Nat → Int32) (l3 : Int32) (l4 : Int32) (l5 : Int32), f10_laysRanks_l13 f0 p1 p2 k2 n A0 l3 l4 l5 = some res → ∀ (H : Heap) (locs : List Loc) (ls : Array Slot), WD G DA (wX10 G h0 a0 f0 A0) H → va_S DA s.heap H locs → lv_has ls 7 [(0, .ref h0), (1, .int p1), (2, .int p2), (3, .int l3), (4, .int l4), (5, .int l5)] → W p l e rmX10_laysRanks s m args below meth c H locs 0 0 (MQ below (QI G DA res.1 (wX10 G h0 a0 f0 res.2)) args s 0 0 DA) (F0 m 13 ls []) := by
  intro n
  induction n with
  | zero => intro A0 l3 l4 l5 h; cases h
  | succ n ih => intro A0 l3 l4 l5 h; exact ww_f10_laysRanks_b13 C0 hk2 ih A0 l3 l4 l5 h
set_option maxRecDepth 100000 in
set_option maxHeartbeats 4000000 in
theorem ww_f10_laysRanks_b2  (C0 : Cx cX10_laysRanks 7 (some .boolean) RX10 p s m args meth c G DA) {h0 : Nat} {a0 : Nat → Nat} {f0 : Nat → Int32} {p1 : Int32} {p2 : Int32}  {k2 : (Nat → Nat → Int32) → Int32 → Option (Int32 × (Nat → Nat → Int32))} {res : Int32 × (Nat → Nat → Int32)}  (hk2 : ∀ (A0 : Nat → Nat → Int32) (l3 : Int32), k2 A0 l3 = some res → ∀ (H : Heap) (locs : List Loc) (ls : Array Slot), WD G DA (wX10 G h0 a0 f0 A0) H → va_S DA s.heap H locs → lv_has ls 7 [(0, .ref h0), (1, .int p1), (2, .int p2), (3, .int l3)] → W p l e rmX10_laysRanks s m args below meth c H locs 0 0 (MQ below (QI G DA res.1 (wX10 G h0 a0 f0 res.2)) args s 0 0 DA) (F0 m 2 ls [])) : ∀ (A0 : Nat → Nat → Int32) (l3 : Int32), f10_laysRanks_b2 f0 p1 p2  k2 A0 l3 = some res → ∀ (H : Heap) (locs : List Loc) (ls : Array Slot), WD G DA (wX10 G h0 a0 f0 A0) H → va_S DA s.heap H locs → lv_has ls 7 [(0, .ref h0), (1, .int p1), (2, .int p2), (3, .int l3)] → W p l e rmX10_laysRanks s m args below meth c H locs 0 0 (MQ below (QI G DA res.1 (wX10 G h0 a0 f0 res.2)) args s 0 0 DA) (F0 m 2 ls []) := by
  obtain ⟨hx, hb, hml, hown, hts⟩ := C0.1
  have hK := C0.2.2.2.1
  intro A0 l3 h _ _ _ hPD hS hl
  unfold f10_laysRanks_b2 at h
  refine lv_iload_n hx hb dX10_laysRanks_2 rfl (lv_at hl 3 rfl) ?_
  refine lv_iload_n hx hb dX10_laysRanks_3 rfl (lv_at hl 2 rfl) ?_
  refine lv_icmp_ge (tgt := 84) hx hb dX10_laysRanks_4 (by decide) (fun cc1 => ?_) (fun cc1 => ?_)
  · have h := (if_pos cc1).symm.trans h
    refine lv_iconst (v := 1) hx hb dX10_laysRanks_84 (by decide) ?_
    obtain rfl := Option.some.inj h
    exact eZ C0 hPD.1 hPD.2 hS rfl rfl dX10_laysRanks_85
  · have h := (if_neg cc1).symm.trans h
    refine lv_iconst (v := 0) hx hb dX10_laysRanks_7 (by decide) ?_
    refine lv_istore (lv' := [(4, .int 0), (0, .ref h0), (1, .int p1), (2, .int p2), (3, .int l3)]) hx hb dX10_laysRanks_8 hl (by decide) rfl (fun ls hl => ?_)
    refine lv_iconst (v := 0) hx hb dX10_laysRanks_10 (by decide) ?_
    refine lv_istore (lv' := [(5, .int 0), (4, .int 0), (0, .ref h0), (1, .int p1), (2, .int p2), (3, .int l3)]) hx hb dX10_laysRanks_11 hl (by decide) rfl (fun ls hl => ?_)
    exact ww_f10_laysRanks_l13 C0 hk2 NF A0 l3 0 0 h _ _ _ hPD hS (lv_sub hl [2, 3, 4, 5, 1, 0] rfl)
set_option maxRecDepth 100000 in
set_option maxHeartbeats 4000000 in
theorem ww_f10_laysRanks_l2  (C0 : Cx cX10_laysRanks 7 (some .boolean) RX10 p s m args meth c G DA) {h0 : Nat} {a0 : Nat → Nat} {f0 : Nat → Int32} {p1 : Int32} {p2 : Int32}   {res : Int32 × (Nat → Nat → Int32)}  : ∀ (n : Nat) (A0 : Nat → Nat → Int32) (l3 : Int32), f10_laysRanks_l2 f0 p1 p2  n A0 l3 = some res → ∀ (H : Heap) (locs : List Loc) (ls : Array Slot), WD G DA (wX10 G h0 a0 f0 A0) H → va_S DA s.heap H locs → lv_has ls 7 [(0, .ref h0), (1, .int p1), (2, .int p2), (3, .int l3)] → W p l e rmX10_laysRanks s m args below meth c H locs 0 0 (MQ below (QI G DA res.1 (wX10 G h0 a0 f0 res.2)) args s 0 0 DA) (F0 m 2 ls []) := by
  intro n
  induction n with
  | zero => intro A0 l3 h; cases h
  | succ n ih => intro A0 l3 h; exact ww_f10_laysRanks_b2 C0  ih A0 l3 h
set_option maxRecDepth 100000 in
set_option maxHeartbeats 4000000 in
theorem kt_X10_laysRanks (l : Launch) (G : Gp) (h0 : Nat) (a0 : Nat → Nat) (f0 : Nat → Int32) (A0 : Nat → Nat → Int32) (p1 : Int32) (p2 : Int32) : ∀ {r : Int32 × (Nat → Nat → Int32)}, f10_laysRanks f0 A0 p1 p2 = some r → CtrI l yX10_laysRanks cX10_laysRanks 7 (some .boolean) rmX10_laysRanks G [.ref h0, .int p1, .int p2] (wX10 G h0 a0 f0 A0) r.1 (wX10 G h0 a0 f0 r.2) := by
  intro res h
  refine ctrI_of (cc := cX10_laysRanks) (maxL := 7) (ret := (some .boolean)) (by decide +kernel) rfl (Nat.le_of_ble_eq_true rfl) (fun p e s m below meth c DA C0 hP hD ls hl => ?_)
  have hPD : WD G DA (wX10 G h0 a0 f0 A0) s.heap := ⟨hP, hD⟩
  have hS : va_S DA s.heap s.heap [] := va_S.rf
  have hl : lv_has ls 7 [(0, .ref h0), (1, .int p1), (2, .int p2)] := hl
  obtain ⟨hx, hb, hml, hown, hts⟩ := C0.1
  have hK := C0.2.2.2.1
  unfold f10_laysRanks at h
  refine lv_iconst (v := 0) hx hb dX10_laysRanks_0 (by decide) ?_
  refine lv_istore_n (lv' := [(3, .int 0), (0, .ref h0), (1, .int p1), (2, .int p2)]) hx hb dX10_laysRanks_1 rfl hl (by decide) rfl (fun ls hl => ?_)
  exact ww_f10_laysRanks_l2 C0 NF A0 0 h _ _ _ hPD hS (lv_sub hl [1, 2, 3, 0] rfl)
abbrev rmX10_margin : Room := { frames := 0, cells := 0, slots := 0, locals := 0 }
set_option maxRecDepth 100000 in
set_option maxHeartbeats 4000000 in
theorem ww_f10_margin_b6  (C0 : Cx cX10_margin 6 (some .int) RX10 p s m args meth c G DA) {h0 : Nat} {a0 : Nat → Nat} {f0 : Nat → Int32} {A0 : Nat → Nat → Int32} {p1 : Int32} {p2 : Int32} {p3 : Int32}  {k6 : Int32 → Int32 → Option (Int32)} {res : Int32}  (hk6 : ∀ (l4 : Int32) (l5 : Int32), k6 l4 l5 = some res → ∀ (H : Heap) (locs : List Loc) (ls : Array Slot), WD G DA (wX10 G h0 a0 f0 A0) H → va_S DA s.heap H locs → lv_has ls 6 [(0, .ref h0), (1, .int p1), (2, .int p2), (3, .int p3), (4, .int l4), (5, .int l5)] → W p l e rmX10_margin s m args below meth c H locs 0 0 (MQ below (QI G DA res (wX10 G h0 a0 f0 A0)) args s 0 0 DA) (F0 m 6 ls [])) : ∀ (l4 : Int32) (l5 : Int32), f10_margin_b6 f0 A0 p1 p2 p3  k6 l4 l5 = some res → ∀ (H : Heap) (locs : List Loc) (ls : Array Slot), WD G DA (wX10 G h0 a0 f0 A0) H → va_S DA s.heap H locs → lv_has ls 6 [(0, .ref h0), (1, .int p1), (2, .int p2), (3, .int p3), (4, .int l4), (5, .int l5)] → W p l e rmX10_margin s m args below meth c H locs 0 0 (MQ below (QI G DA res (wX10 G h0 a0 f0 A0)) args s 0 0 DA) (F0 m 6 ls []) := by
  obtain ⟨hx, hb, hml, hown, hts⟩ := C0.1
  have hK := C0.2.2.2.1
  intro l4 l5 h _ _ _ hPD hS hl
  unfold f10_margin_b6 at h
  refine lv_iload hx hb dX10_margin_6 (lv_at hl 5 rfl) ?_
  refine lv_iload_n hx hb dX10_margin_8 rfl (lv_at hl 3 rfl) ?_
  refine lv_icmp_ge (tgt := 55) hx hb dX10_margin_9 (by decide) (fun cc1 => ?_) (fun cc1 => ?_)
  · have h := (if_pos cc1).symm.trans h
    refine lv_iload hx hb dX10_margin_55 (lv_at hl 4 rfl) ?_
    obtain rfl := Option.some.inj h
    exact eI C0 hPD.1 hPD.2 hS rfl dX10_margin_57
  · have h := (if_neg cc1).symm.trans h
    refine lv_iload hx hb dX10_margin_12 (lv_at hl 4 rfl) ?_
    refine lv_aload_n hx hb dX10_margin_14 rfl (lv_at hl 0 rfl) ?_
    refine va_get (D := G.1) (ci := 10) (v := .ref (a0 50)) (C := RX10) (T := TX10) (N := 52) hx hb hts inlX10 hown hK hPD.1 0 rfl rfl 50 (by decide) (hts _ gw_820) (fun _ h9 => h9) rfl dX10_margin_15 ?_
    refine lv_bipush (v := 6) hx hb dX10_margin_18 (by decide) ?_
    refine lv_iload hx hb dX10_margin_20 (lv_at hl 5 rfl) ?_
    refine lv_imul hx hb dX10_margin_22 ?_
    refine lv_iload_n hx hb dX10_margin_23 rfl (lv_at hl 1 rfl) ?_
    refine lv_iadd hx hb dX10_margin_24 ?_
    obtain ⟨hi_1, h⟩ := ob h
    refine va_iald hx hb hK hPD.1 33 1 rfl rfl hi_1 dX10_margin_25 ?_
    refine lv_aload_n hx hb dX10_margin_26 rfl (lv_at hl 0 rfl) ?_
    refine va_get (D := G.1) (ci := 10) (v := .ref (a0 50)) (C := RX10) (T := TX10) (N := 52) hx hb hts inlX10 hown hK hPD.1 0 rfl rfl 50 (by decide) (hts _ gw_820) (fun _ h9 => h9) rfl dX10_margin_27 ?_
    refine lv_bipush (v := 6) hx hb dX10_margin_30 (by decide) ?_
    refine lv_iload hx hb dX10_margin_32 (lv_at hl 5 rfl) ?_
    refine lv_imul hx hb dX10_margin_34 ?_
    refine lv_iload_n hx hb dX10_margin_35 rfl (lv_at hl 2 rfl) ?_
    refine lv_iadd hx hb dX10_margin_36 ?_
    obtain ⟨hi_2, h⟩ := ob h
    refine va_iald hx hb hK hPD.1 33 1 rfl rfl hi_2 dX10_margin_37 ?_
    refine lv_icmp_ge (tgt := 45) hx hb dX10_margin_38 (by decide) (fun cc1 => ?_) (fun cc1 => ?_)
    · have h := (if_pos cc1).symm.trans h
      refine lv_iconst (v := (-1)) hx hb dX10_margin_45 (by decide) ?_
      refine lv_iadd hx hb dX10_margin_46 ?_
      refine lv_istore (lv' := [(4, .int (l4 + (-1))), (0, .ref h0), (1, .int p1), (2, .int p2), (3, .int p3), (5, .int l5)]) hx hb dX10_margin_47 hl (by decide) rfl (fun ls hl => ?_)
      refine lv_iinc (v := l5 + 1) (lv' := [(5, .int (l5 + 1)), (4, .int (l4 + (-1))), (0, .ref h0), (1, .int p1), (2, .int p2), (3, .int p3)]) hx hb dX10_margin_49 hl (k := 5) rfl rfl (by decide) rfl (fun ls hl => ?_)
      refine lv_goto (tgt := 6) hx hb dX10_margin_52 (by decide) ?_
      exact hk6 (l4 + (-1)) (l5 + 1) h _ _ _ hPD hS (lv_sub hl [2, 3, 4, 5, 1, 0] rfl)
    · have h := (if_neg cc1).symm.trans h
      refine lv_iconst (v := 1) hx hb dX10_margin_41 (by decide) ?_
      refine lv_goto (tgt := 46) hx hb dX10_margin_42 (by decide) ?_
      refine lv_iadd hx hb dX10_margin_46 ?_
      refine lv_istore (lv' := [(4, .int (l4 + 1)), (0, .ref h0), (1, .int p1), (2, .int p2), (3, .int p3), (5, .int l5)]) hx hb dX10_margin_47 hl (by decide) rfl (fun ls hl => ?_)
      refine lv_iinc (v := l5 + 1) (lv' := [(5, .int (l5 + 1)), (4, .int (l4 + 1)), (0, .ref h0), (1, .int p1), (2, .int p2), (3, .int p3)]) hx hb dX10_margin_49 hl (k := 5) rfl rfl (by decide) rfl (fun ls hl => ?_)
      refine lv_goto (tgt := 6) hx hb dX10_margin_52 (by decide) ?_
      exact hk6 (l4 + 1) (l5 + 1) h _ _ _ hPD hS (lv_sub hl [2, 3, 4, 5, 1, 0] rfl)
set_option maxRecDepth 100000 in
set_option maxHeartbeats 4000000 in
theorem ww_f10_margin_l6  (C0 : Cx cX10_margin 6 (some .int) RX10 p s m args meth c G DA) {h0 : Nat} {a0 : Nat → Nat} {f0 : Nat → Int32} {A0 : Nat → Nat → Int32} {p1 : Int32} {p2 : Int32} {p3 : Int32}   {res : Int32}  : ∀ (n : Nat) (l4 : Int32) (l5 : Int32), f10_margin_l6 f0 A0 p1 p2 p3  n l4 l5 = some res → ∀ (H : Heap) (locs : List Loc) (ls : Array Slot), WD G DA (wX10 G h0 a0 f0 A0) H → va_S DA s.heap H locs → lv_has ls 6 [(0, .ref h0), (1, .int p1), (2, .int p2), (3, .int p3), (4, .int l4), (5, .int l5)] → W p l e rmX10_margin s m args below meth c H locs 0 0 (MQ below (QI G DA res (wX10 G h0 a0 f0 A0)) args s 0 0 DA) (F0 m 6 ls []) := by
  intro n
  induction n with
  | zero => intro l4 l5 h; cases h
  | succ n ih => intro l4 l5 h; exact ww_f10_margin_b6 C0  ih l4 l5 h
set_option maxRecDepth 100000 in
set_option maxHeartbeats 4000000 in
theorem kt_X10_margin (l : Launch) (G : Gp) (h0 : Nat) (a0 : Nat → Nat) (f0 : Nat → Int32) (A0 : Nat → Nat → Int32) (p1 : Int32) (p2 : Int32) (p3 : Int32) : ∀ {r : Int32}, f10_margin f0 A0 p1 p2 p3 = some r → CtrI l yX10_margin cX10_margin 6 (some .int) rmX10_margin G [.ref h0, .int p1, .int p2, .int p3] (wX10 G h0 a0 f0 A0) r (wX10 G h0 a0 f0 A0) := by
  intro res h
  refine ctrI_of (cc := cX10_margin) (maxL := 6) (ret := (some .int)) (by decide +kernel) rfl (Nat.le_of_ble_eq_true rfl) (fun p e s m below meth c DA C0 hP hD ls hl => ?_)
  have hPD : WD G DA (wX10 G h0 a0 f0 A0) s.heap := ⟨hP, hD⟩
  have hS : va_S DA s.heap s.heap [] := va_S.rf
  have hl : lv_has ls 6 [(0, .ref h0), (1, .int p1), (2, .int p2), (3, .int p3)] := hl
  obtain ⟨hx, hb, hml, hown, hts⟩ := C0.1
  have hK := C0.2.2.2.1
  unfold f10_margin at h
  refine lv_iconst (v := 0) hx hb dX10_margin_0 (by decide) ?_
  refine lv_istore (lv' := [(4, .int 0), (0, .ref h0), (1, .int p1), (2, .int p2), (3, .int p3)]) hx hb dX10_margin_1 hl (by decide) rfl (fun ls hl => ?_)
  refine lv_iconst (v := 0) hx hb dX10_margin_3 (by decide) ?_
  refine lv_istore (lv' := [(5, .int 0), (4, .int 0), (0, .ref h0), (1, .int p1), (2, .int p2), (3, .int p3)]) hx hb dX10_margin_4 hl (by decide) rfl (fun ls hl => ?_)
  exact ww_f10_margin_l6 C0 NF 0 0 h _ _ _ hPD hS (lv_sub hl [2, 3, 4, 5, 1, 0] rfl)
abbrev rmX10_beatsAll : Room := { frames := 1, cells := 0, slots := 0, locals := 25 }
set_option maxRecDepth 100000 in
set_option maxHeartbeats 4000000 in
theorem ww_f10_beatsAll_b3  (C0 : Cx cX10_beatsAll 5 (some .boolean) RX10 p s m args meth c G DA) {h0 : Nat} {a0 : Nat → Nat} {f0 : Nat → Int32} {A0 : Nat → Nat → Int32} {p1 : Int32} {p2 : Int32} {p3 : Int32}  {k3 : Int32 → Option (Int32)} {res : Int32}  (hk3 : ∀ (l4 : Int32), k3 l4 = some res → ∀ (H : Heap) (locs : List Loc) (ls : Array Slot), WD G DA (wX10 G h0 a0 f0 A0) H → va_S DA s.heap H locs → lv_has ls 5 [(0, .ref h0), (1, .int p1), (2, .int p2), (3, .int p3), (4, .int l4)] → W p l e rmX10_beatsAll s m args below meth c H locs 0 0 (MQ below (QI G DA res (wX10 G h0 a0 f0 A0)) args s 0 0 DA) (F0 m 3 ls [])) : ∀ (l4 : Int32), f10_beatsAll_b3 f0 A0 p1 p2 p3  k3 l4 = some res → ∀ (H : Heap) (locs : List Loc) (ls : Array Slot), WD G DA (wX10 G h0 a0 f0 A0) H → va_S DA s.heap H locs → lv_has ls 5 [(0, .ref h0), (1, .int p1), (2, .int p2), (3, .int p3), (4, .int l4)] → W p l e rmX10_beatsAll s m args below meth c H locs 0 0 (MQ below (QI G DA res (wX10 G h0 a0 f0 A0)) args s 0 0 DA) (F0 m 3 ls []) := by
  obtain ⟨hx, hb, hml, hown, hts⟩ := C0.1
  have hK := C0.2.2.2.1
  intro l4 h _ _ _ hPD hS hl
  unfold f10_beatsAll_b3 at h
  refine lv_iload hx hb dX10_beatsAll_3 (lv_at hl 4 rfl) ?_
  refine lv_iload_n hx hb dX10_beatsAll_5 rfl (lv_at hl 2 rfl) ?_
  refine lv_icmp_ge (tgt := 34) hx hb dX10_beatsAll_6 (by decide) (fun cc1 => ?_) (fun cc1 => ?_)
  · have h := (if_pos cc1).symm.trans h
    refine lv_iconst (v := 1) hx hb dX10_beatsAll_34 (by decide) ?_
    obtain rfl := Option.some.inj h
    exact eZ C0 hPD.1 hPD.2 hS rfl rfl dX10_beatsAll_35
  · have h := (if_neg cc1).symm.trans h
    refine lv_iload hx hb dX10_beatsAll_9 (lv_at hl 4 rfl) ?_
    refine lv_iload_n hx hb dX10_beatsAll_11 rfl (lv_at hl 1 rfl) ?_
    refine lv_icmp_eq (tgt := 28) hx hb dX10_beatsAll_12 (by decide) (fun cc1 => ?_) (fun cc1 => ?_)
    · have h := (if_pos cc1).symm.trans h
      refine lv_iinc (v := l4 + 1) (lv' := [(4, .int (l4 + 1)), (0, .ref h0), (1, .int p1), (2, .int p2), (3, .int p3)]) hx hb dX10_beatsAll_28 hl (k := 4) rfl rfl (by decide) rfl (fun ls hl => ?_)
      refine lv_goto (tgt := 3) hx hb dX10_beatsAll_31 (by decide) ?_
      exact hk3 (l4 + 1) h _ _ _ hPD hS (lv_sub hl [1, 2, 3, 4, 0] rfl)
    · have h := (if_neg cc1).symm.trans h
      refine lv_aload_n hx hb dX10_beatsAll_15 rfl (lv_at hl 0 rfl) ?_
      refine lv_iload_n hx hb dX10_beatsAll_16 rfl (lv_at hl 1 rfl) ?_
      refine lv_iload hx hb dX10_beatsAll_17 (lv_at hl 4 rfl) ?_
      refine lv_iload_n hx hb dX10_beatsAll_19 rfl (lv_at hl 3 rfl) ?_
      obtain ⟨q_1, hq_1, h⟩ := ob2 h
      refine kVI (As := [.int p1, .int l4, .int p3]) (rest := []) C0 (kt_X10_margin l G h0 a0 f0 A0 p1 l4 p3 hq_1) gi_V_X10_366_X10_margin (n := 3) rfl (by decide +kernel) rfl ⟨rfl, rfl, Nat.le_of_ble_eq_true rfl, Nat.le_of_ble_eq_true rfl⟩ hPD hS 0 10 rfl rfl rfl [0, 1, 2, 3, 4, 5, 6, 7, 8, 9, 10, 11, 12, 13, 14, 15, 16, 17, 18, 19, 20, 21, 22, 23, 24, 25, 26, 27, 28, 29, 30, 31, 32, 33] [] [0, 1, 2, 3, 4, 5, 6, 7, 8, 9, 10, 11, 12, 13, 14, 15, 16, 17, 18, 19, 20, 21, 22, 23, 24, 25, 26, 27, 28, 29, 30, 31, 32, 33] (wN := (wX10 G h0 a0 f0 A0)) rfl rfl rfl rfl rfl hl.1 (Nat.le_of_ble_eq_true rfl) dX10_beatsAll_20 (fun H locs hPD hS => ?_)
      refine lv_if_gt (tgt := 28) hx hb dX10_beatsAll_23 (by decide) (fun cc1 => ?_) (fun cc1 => ?_)
      · have h := (if_pos cc1).symm.trans h
        refine lv_iinc (v := l4 + 1) (lv' := [(4, .int (l4 + 1)), (0, .ref h0), (1, .int p1), (2, .int p2), (3, .int p3)]) hx hb dX10_beatsAll_28 hl (k := 4) rfl rfl (by decide) rfl (fun ls hl => ?_)
        refine lv_goto (tgt := 3) hx hb dX10_beatsAll_31 (by decide) ?_
        exact hk3 (l4 + 1) h _ _ _ hPD hS (lv_sub hl [1, 2, 3, 4, 0] rfl)
      · have h := (if_neg cc1).symm.trans h
        refine lv_iconst (v := 0) hx hb dX10_beatsAll_26 (by decide) ?_
        obtain rfl := Option.some.inj h
        exact eZ C0 hPD.1 hPD.2 hS rfl rfl dX10_beatsAll_27
set_option maxRecDepth 100000 in
set_option maxHeartbeats 4000000 in
theorem ww_f10_beatsAll_l3  (C0 : Cx cX10_beatsAll 5 (some .boolean) RX10 p s m args meth c G DA) {h0 : Nat} {a0 : Nat → Nat} {f0 : Nat → Int32} {A0 : Nat → Nat → Int32} {p1 : Int32} {p2 : Int32} {p3 : Int32}   {res : Int32}  : ∀ (n : Nat) (l4 : Int32), f10_beatsAll_l3 f0 A0 p1 p2 p3  n l4 = some res → ∀ (H : Heap) (locs : List Loc) (ls : Array Slot), WD G DA (wX10 G h0 a0 f0 A0) H → va_S DA s.heap H locs → lv_has ls 5 [(0, .ref h0), (1, .int p1), (2, .int p2), (3, .int p3), (4, .int l4)] → W p l e rmX10_beatsAll s m args below meth c H locs 0 0 (MQ below (QI G DA res (wX10 G h0 a0 f0 A0)) args s 0 0 DA) (F0 m 3 ls []) := by
  intro n
  induction n with
  | zero => intro l4 h; cases h
  | succ n ih => intro l4 h; exact ww_f10_beatsAll_b3 C0  ih l4 h
set_option maxRecDepth 100000 in
set_option maxHeartbeats 4000000 in
theorem kt_X10_beatsAll (l : Launch) (G : Gp) (h0 : Nat) (a0 : Nat → Nat) (f0 : Nat → Int32) (A0 : Nat → Nat → Int32) (p1 : Int32) (p2 : Int32) (p3 : Int32) : ∀ {r : Int32}, f10_beatsAll f0 A0 p1 p2 p3 = some r → CtrI l yX10_beatsAll cX10_beatsAll 5 (some .boolean) rmX10_beatsAll G [.ref h0, .int p1, .int p2, .int p3] (wX10 G h0 a0 f0 A0) r (wX10 G h0 a0 f0 A0) := by
  intro res h
  refine ctrI_of (cc := cX10_beatsAll) (maxL := 5) (ret := (some .boolean)) (by decide +kernel) rfl (Nat.le_of_ble_eq_true rfl) (fun p e s m below meth c DA C0 hP hD ls hl => ?_)
  have hPD : WD G DA (wX10 G h0 a0 f0 A0) s.heap := ⟨hP, hD⟩
  have hS : va_S DA s.heap s.heap [] := va_S.rf
  have hl : lv_has ls 5 [(0, .ref h0), (1, .int p1), (2, .int p2), (3, .int p3)] := hl
  obtain ⟨hx, hb, hml, hown, hts⟩ := C0.1
  have hK := C0.2.2.2.1
  unfold f10_beatsAll at h
  refine lv_iconst (v := 0) hx hb dX10_beatsAll_0 (by decide) ?_
  refine lv_istore (lv' := [(4, .int 0), (0, .ref h0), (1, .int p1), (2, .int p2), (3, .int p3)]) hx hb dX10_beatsAll_1 hl (by decide) rfl (fun ls hl => ?_)
  exact ww_f10_beatsAll_l3 C0 NF 0 h _ _ _ hPD hS (lv_sub hl [1, 2, 3, 4, 0] rfl)
abbrev rmX10_placesOf : Room := { frames := 0, cells := 0, slots := 0, locals := 0 }
set_option maxRecDepth 100000 in
set_option maxHeartbeats 4000000 in
theorem ww_f10_placesOf_b5  (C0 : Cx cX10_placesOf 5 (some .int) RX10 p s m args meth c G DA) {h0 : Nat} {a0 : Nat → Nat} {f0 : Nat → Int32} {A0 : Nat → Nat → Int32} {p1 : Int32} {p2 : Int32}  {k5 : Int32 → Int32 → Option (Int32)} {res : Int32}  (hk5 : ∀ (l3 : Int32) (l4 : Int32), k5 l3 l4 = some res → ∀ (H : Heap) (locs : List Loc) (ls : Array Slot), WD G DA (wX10 G h0 a0 f0 A0) H → va_S DA s.heap H locs → lv_has ls 5 [(0, .ref h0), (1, .int p1), (2, .int p2), (3, .int l3), (4, .int l4)] → W p l e rmX10_placesOf s m args below meth c H locs 0 0 (MQ below (QI G DA res (wX10 G h0 a0 f0 A0)) args s 0 0 DA) (F0 m 5 ls [])) : ∀ (l3 : Int32) (l4 : Int32), f10_placesOf_b5 f0 A0 p1 p2  k5 l3 l4 = some res → ∀ (H : Heap) (locs : List Loc) (ls : Array Slot), WD G DA (wX10 G h0 a0 f0 A0) H → va_S DA s.heap H locs → lv_has ls 5 [(0, .ref h0), (1, .int p1), (2, .int p2), (3, .int l3), (4, .int l4)] → W p l e rmX10_placesOf s m args below meth c H locs 0 0 (MQ below (QI G DA res (wX10 G h0 a0 f0 A0)) args s 0 0 DA) (F0 m 5 ls []) := by
  obtain ⟨hx, hb, hml, hown, hts⟩ := C0.1
  have hK := C0.2.2.2.1
  intro l3 l4 h _ _ _ hPD hS hl
  unfold f10_placesOf_b5 at h
  refine lv_iload hx hb dX10_placesOf_5 (lv_at hl 4 rfl) ?_
  refine lv_iload_n hx hb dX10_placesOf_7 rfl (lv_at hl 2 rfl) ?_
  refine lv_icmp_ge (tgt := 32) hx hb dX10_placesOf_8 (by decide) (fun cc1 => ?_) (fun cc1 => ?_)
  · have h := (if_pos cc1).symm.trans h
    refine lv_iload_n hx hb dX10_placesOf_32 rfl (lv_at hl 3 rfl) ?_
    obtain rfl := Option.some.inj h
    exact eI C0 hPD.1 hPD.2 hS rfl dX10_placesOf_33
  · have h := (if_neg cc1).symm.trans h
    refine lv_iload_n hx hb dX10_placesOf_11 rfl (lv_at hl 3 rfl) ?_
    refine lv_aload_n hx hb dX10_placesOf_12 rfl (lv_at hl 0 rfl) ?_
    refine va_get (D := G.1) (ci := 10) (v := .ref (a0 50)) (C := RX10) (T := TX10) (N := 52) hx hb hts inlX10 hown hK hPD.1 0 rfl rfl 50 (by decide) (hts _ gw_820) (fun _ h9 => h9) rfl dX10_placesOf_13 ?_
    refine lv_bipush (v := 6) hx hb dX10_placesOf_16 (by decide) ?_
    refine lv_iload hx hb dX10_placesOf_18 (lv_at hl 4 rfl) ?_
    refine lv_imul hx hb dX10_placesOf_20 ?_
    refine lv_iload_n hx hb dX10_placesOf_21 rfl (lv_at hl 1 rfl) ?_
    refine lv_iadd hx hb dX10_placesOf_22 ?_
    obtain ⟨hi_1, h⟩ := ob h
    refine va_iald hx hb hK hPD.1 33 1 rfl rfl hi_1 dX10_placesOf_23 ?_
    refine lv_iadd hx hb dX10_placesOf_24 ?_
    refine lv_istore_n (lv' := [(3, .int (l3 + (gx (A0 50) ((6 * l4) + p1)))), (0, .ref h0), (1, .int p1), (2, .int p2), (4, .int l4)]) hx hb dX10_placesOf_25 rfl hl (by decide) rfl (fun ls hl => ?_)
    refine lv_iinc (v := l4 + 1) (lv' := [(4, .int (l4 + 1)), (3, .int (l3 + (gx (A0 50) ((6 * l4) + p1)))), (0, .ref h0), (1, .int p1), (2, .int p2)]) hx hb dX10_placesOf_26 hl (k := 4) rfl rfl (by decide) rfl (fun ls hl => ?_)
    refine lv_goto (tgt := 5) hx hb dX10_placesOf_29 (by decide) ?_
    exact hk5 (l3 + (gx (A0 50) ((6 * l4) + p1))) (l4 + 1) h _ _ _ hPD hS (lv_sub hl [2, 3, 4, 1, 0] rfl)
set_option maxRecDepth 100000 in
set_option maxHeartbeats 4000000 in
theorem ww_f10_placesOf_l5  (C0 : Cx cX10_placesOf 5 (some .int) RX10 p s m args meth c G DA) {h0 : Nat} {a0 : Nat → Nat} {f0 : Nat → Int32} {A0 : Nat → Nat → Int32} {p1 : Int32} {p2 : Int32}   {res : Int32}  : ∀ (n : Nat) (l3 : Int32) (l4 : Int32), f10_placesOf_l5 f0 A0 p1 p2  n l3 l4 = some res → ∀ (H : Heap) (locs : List Loc) (ls : Array Slot), WD G DA (wX10 G h0 a0 f0 A0) H → va_S DA s.heap H locs → lv_has ls 5 [(0, .ref h0), (1, .int p1), (2, .int p2), (3, .int l3), (4, .int l4)] → W p l e rmX10_placesOf s m args below meth c H locs 0 0 (MQ below (QI G DA res (wX10 G h0 a0 f0 A0)) args s 0 0 DA) (F0 m 5 ls []) := by
  intro n
  induction n with
  | zero => intro l3 l4 h; cases h
  | succ n ih => intro l3 l4 h; exact ww_f10_placesOf_b5 C0  ih l3 l4 h
set_option maxRecDepth 100000 in
set_option maxHeartbeats 4000000 in
theorem kt_X10_placesOf (l : Launch) (G : Gp) (h0 : Nat) (a0 : Nat → Nat) (f0 : Nat → Int32) (A0 : Nat → Nat → Int32) (p1 : Int32) (p2 : Int32) : ∀ {r : Int32}, f10_placesOf f0 A0 p1 p2 = some r → CtrI l yX10_placesOf cX10_placesOf 5 (some .int) rmX10_placesOf G [.ref h0, .int p1, .int p2] (wX10 G h0 a0 f0 A0) r (wX10 G h0 a0 f0 A0) := by
  intro res h
  refine ctrI_of (cc := cX10_placesOf) (maxL := 5) (ret := (some .int)) (by decide +kernel) rfl (Nat.le_of_ble_eq_true rfl) (fun p e s m below meth c DA C0 hP hD ls hl => ?_)
  have hPD : WD G DA (wX10 G h0 a0 f0 A0) s.heap := ⟨hP, hD⟩
  have hS : va_S DA s.heap s.heap [] := va_S.rf
  have hl : lv_has ls 5 [(0, .ref h0), (1, .int p1), (2, .int p2)] := hl
  obtain ⟨hx, hb, hml, hown, hts⟩ := C0.1
  have hK := C0.2.2.2.1
  unfold f10_placesOf at h
  refine lv_iconst (v := 0) hx hb dX10_placesOf_0 (by decide) ?_
  refine lv_istore_n (lv' := [(3, .int 0), (0, .ref h0), (1, .int p1), (2, .int p2)]) hx hb dX10_placesOf_1 rfl hl (by decide) rfl (fun ls hl => ?_)
  refine lv_iconst (v := 0) hx hb dX10_placesOf_2 (by decide) ?_
  refine lv_istore (lv' := [(4, .int 0), (3, .int 0), (0, .ref h0), (1, .int p1), (2, .int p2)]) hx hb dX10_placesOf_3 hl (by decide) rfl (fun ls hl => ?_)
  exact ww_f10_placesOf_l5 C0 NF 0 0 h _ _ _ hPD hS (lv_sub hl [2, 3, 4, 1, 0] rfl)
abbrev rmX10_bench : Room := { frames := 2, cells := 0, slots := 0, locals := 49 }
set_option maxRecDepth 100000 in
set_option maxHeartbeats 4000000 in
theorem ww_f10_bench_b116  (C0 : Cx cX10_bench 9 (some .int) RX10 p s m args meth c G DA) {h0 : Nat} {a0 : Nat → Nat} {p1 : Int32} {p2 : Int32} {p3 : Int32}  {k71 : (Nat → Nat → Int32) → (Nat → Int32) → Int32 → Int32 → Int32 → Int32 → Option (Int32 × (Nat → Nat → Int32) × (Nat → Int32))} {k116 : (Nat → Nat → Int32) → (Nat → Int32) → Int32 → Int32 → Int32 → Int32 → Int32 → Option (Int32 × (Nat → Nat → Int32) × (Nat → Int32))} {res : Int32 × (Nat → Nat → Int32) × (Nat → Int32)} (hk71 : ∀ (A0 : Nat → Nat → Int32) (f0 : Nat → Int32) (l4 : Int32) (l5 : Int32) (l6 : Int32) (l7 : Int32), k71 A0 f0 l4 l5 l6 l7 = some res → ∀ (H : Heap) (locs : List Loc) (ls : Array Slot), WD G DA (wX10 G h0 a0 f0 A0) H → va_S DA s.heap H locs → lv_has ls 9 [(0, .ref h0), (1, .int p1), (2, .int p2), (3, .int p3), (4, .int l4), (5, .int l5), (6, .int l6), (7, .int l7)] → W p l e rmX10_bench s m args below meth c H locs 0 0 (MQ below (QI G DA res.1 (wX10 G h0 a0 res.2.2 res.2.1)) args s 0 0 DA) (F0 m 71 ls [])) (hk116 : ∀ (A0 : Nat → Nat → Int32) (f0 : Nat → Int32) (l4 : Int32) (l5 : Int32) (l6 : Int32) (l7 : Int32) (l8 : Int32), k116 A0 f0 l4 l5 l6 l7 l8 = some res → ∀ (H : Heap) (locs : List Loc) (ls : Array Slot), WD G DA (wX10 G h0 a0 f0 A0) H → va_S DA s.heap H locs → lv_has ls 9 [(0, .ref h0), (1, .int p1), (2, .int p2), (3, .int p3), (4, .int l4), (5, .int l5), (6, .int l6), (7, .int l7), (8, .int l8)] → W p l e rmX10_bench s m args below meth c H locs 0 0 (MQ below (QI G DA res.1 (wX10 G h0 a0 res.2.2 res.2.1)) args s 0 0 DA) (F0 m 116 ls [])) : ∀ (A0 : Nat → Nat → Int32) (f0 : Nat → Int32) (l4 : Int32) (l5 : Int32) (l6 : Int32) (l7 : Int32) (l8 : Int32), f10_bench_b116 p1 p2 p3 k71 k116 A0 f0 l4 l5 l6 l7 l8 = some res → ∀ (H : Heap) (locs : List Loc) (ls : Array Slot), WD G DA (wX10 G h0 a0 f0 A0) H → va_S DA s.heap H locs → lv_has ls 9 [(0, .ref h0), (1, .int p1), (2, .int p2), (3, .int p3), (4, .int l4), (5, .int l5), (6, .int l6), (7, .int l7), (8, .int l8)] → W p l e rmX10_bench s m args below meth c H locs 0 0 (MQ below (QI G DA res.1 (wX10 G h0 a0 res.2.2 res.2.1)) args s 0 0 DA) (F0 m 116 ls []) := by
  obtain ⟨hx, hb, hml, hown, hts⟩ := C0.1
  have hK := C0.2.2.2.1
  intro A0 f0 l4 l5 l6 l7 l8 h _ _ _ hPD hS hl
  unfold f10_bench_b116 at h
  refine lv_iload hx hb dX10_bench_116 (lv_at hl 8 rfl) ?_
  refine lv_iload hx hb dX10_bench_118 (lv_at hl 7 rfl) ?_
  refine lv_icmp_ge (tgt := 147) hx hb dX10_bench_120 (by decide) (fun cc1 => ?_) (fun cc1 => ?_)
  · have h := (if_pos cc1).symm.trans h
    refine lv_iinc (v := l7 + 1) (lv' := [(7, .int (l7 + 1)), (0, .ref h0), (1, .int p1), (2, .int p2), (3, .int p3), (4, .int l4), (5, .int l5), (6, .int l6), (8, .int l8)]) hx hb dX10_bench_147 hl (k := 7) rfl rfl (by decide) rfl (fun ls hl => ?_)
    refine lv_goto (tgt := 71) hx hb dX10_bench_150 (by decide) ?_
    exact hk71 A0 f0 l4 l5 l6 (l7 + 1) h _ _ _ hPD hS (lv_sub hl [1, 2, 3, 4, 5, 6, 7, 0] rfl)
  · have h := (if_neg cc1).symm.trans h
    refine lv_aload_n hx hb dX10_bench_123 rfl (lv_at hl 0 rfl) ?_
    refine lv_iload hx hb dX10_bench_124 (lv_at hl 7 rfl) ?_
    refine lv_iload hx hb dX10_bench_126 (lv_at hl 8 rfl) ?_
    refine lv_iload_n hx hb dX10_bench_128 rfl (lv_at hl 2 rfl) ?_
    obtain ⟨q_6, hq_6, h⟩ := ob2 h
    refine kVI (As := [.int l7, .int l8, .int p2]) (rest := []) C0 (kt_X10_margin l G h0 a0 f0 A0 l7 l8 p2 hq_6) gi_V_X10_366_X10_margin (n := 3) rfl (by decide +kernel) rfl ⟨rfl, rfl, Nat.le_of_ble_eq_true rfl, Nat.le_of_ble_eq_true rfl⟩ hPD hS 0 10 rfl rfl rfl [0, 1, 2, 3, 4, 5, 6, 7, 8, 9, 10, 11, 12, 13, 14, 15, 16, 17, 18, 19, 20, 21, 22, 23, 24, 25, 26, 27, 28, 29, 30, 31, 32, 33] [] [0, 1, 2, 3, 4, 5, 6, 7, 8, 9, 10, 11, 12, 13, 14, 15, 16, 17, 18, 19, 20, 21, 22, 23, 24, 25, 26, 27, 28, 29, 30, 31, 32, 33] (wN := (wX10 G h0 a0 f0 A0)) rfl rfl rfl rfl rfl hl.1 (Nat.le_of_ble_eq_true rfl) dX10_bench_129 (fun H locs hPD hS => ?_)
    refine lv_if_ne (tgt := 141) hx hb dX10_bench_132 (by decide) (fun cc1 => ?_) (fun cc1 => ?_)
    · have h := (if_neg cc1).symm.trans h
      refine lv_iinc (v := l8 + 1) (lv' := [(8, .int (l8 + 1)), (0, .ref h0), (1, .int p1), (2, .int p2), (3, .int p3), (4, .int l4), (5, .int l5), (6, .int l6), (7, .int l7)]) hx hb dX10_bench_141 hl (k := 8) rfl rfl (by decide) rfl (fun ls hl => ?_)
      refine lv_goto (tgt := 116) hx hb dX10_bench_144 (by decide) ?_
      exact hk116 A0 f0 l4 l5 l6 l7 (l8 + 1) h _ _ _ hPD hS (lv_sub hl [1, 2, 3, 4, 5, 6, 7, 8, 0] rfl)
    · have h := (if_pos cc1).symm.trans h
      refine lv_iload hx hb dX10_bench_135 (lv_at hl 6 rfl) ?_
      refine lv_iconst (v := 1) hx hb dX10_bench_137 (by decide) ?_
      refine lv_iadd hx hb dX10_bench_138 ?_
      refine lv_istore (lv' := [(6, .int (l6 + 1)), (0, .ref h0), (1, .int p1), (2, .int p2), (3, .int p3), (4, .int l4), (5, .int l5), (7, .int l7), (8, .int l8)]) hx hb dX10_bench_139 hl (by decide) rfl (fun ls hl => ?_)
      refine lv_iinc (v := l8 + 1) (lv' := [(8, .int (l8 + 1)), (6, .int (l6 + 1)), (0, .ref h0), (1, .int p1), (2, .int p2), (3, .int p3), (4, .int l4), (5, .int l5), (7, .int l7)]) hx hb dX10_bench_141 hl (k := 8) rfl rfl (by decide) rfl (fun ls hl => ?_)
      refine lv_goto (tgt := 116) hx hb dX10_bench_144 (by decide) ?_
      exact hk116 A0 f0 l4 l5 (l6 + 1) l7 (l8 + 1) h _ _ _ hPD hS (lv_sub hl [2, 3, 4, 5, 6, 7, 1, 8, 0] rfl)
set_option maxRecDepth 100000 in
set_option maxHeartbeats 4000000 in
theorem ww_f10_bench_l116  (C0 : Cx cX10_bench 9 (some .int) RX10 p s m args meth c G DA) {h0 : Nat} {a0 : Nat → Nat} {p1 : Int32} {p2 : Int32} {p3 : Int32}  {k71 : (Nat → Nat → Int32) → (Nat → Int32) → Int32 → Int32 → Int32 → Int32 → Option (Int32 × (Nat → Nat → Int32) × (Nat → Int32))} {res : Int32 × (Nat → Nat → Int32) × (Nat → Int32)} (hk71 : ∀ (A0 : Nat → Nat → Int32) (f0 : Nat → Int32) (l4 : Int32) (l5 : Int32) (l6 : Int32) (l7 : Int32), k71 A0 f0 l4 l5 l6 l7 = some res → ∀ (H : Heap) (locs : List Loc) (ls : Array Slot), WD G DA (wX10 G h0 a0 f0 A0) H → va_S DA s.heap H locs → lv_has ls 9 [(0, .ref h0), (1, .int p1), (2, .int p2), (3, .int p3), (4, .int l4), (5, .int l5), (6, .int l6), (7, .int l7)] → W p l e rmX10_bench s m args below meth c H locs 0 0 (MQ below (QI G DA res.1 (wX10 G h0 a0 res.2.2 res.2.1)) args s 0 0 DA) (F0 m 71 ls [])) : ∀ (n : Nat) (A0 : Nat → Nat → Int32) (f0 : Nat → Int32) (l4 : Int32) (l5 : Int32) (l6 : Int32) (l7 : Int32) (l8 : Int32), f10_bench_l116 p1 p2 p3 k71 n A0 f0 l4 l5 l6 l7 l8 = some res → ∀ (H : Heap) (locs : List Loc) (ls : Array Slot), WD G DA (wX10 G h0 a0 f0 A0) H → va_S DA s.heap H locs → lv_has ls 9 [(0, .ref h0), (1, .int p1), (2, .int p2), (3, .int p3), (4, .int l4), (5, .int l5), (6, .int l6), (7, .int l7), (8, .int l8)] → W p l e rmX10_bench s m args below meth c H locs 0 0 (MQ below (QI G DA res.1 (wX10 G h0 a0 res.2.2 res.2.1)) args s 0 0 DA) (F0 m 116 ls []) := by
  intro n
  induction n with
  | zero => intro A0 f0 l4 l5 l6 l7 l8 h; cases h
  | succ n ih => intro A0 f0 l4 l5 l6 l7 l8 h; exact ww_f10_bench_b116 C0 hk71 ih A0 f0 l4 l5 l6 l7 l8 h
set_option maxRecDepth 100000 in
set_option maxHeartbeats 4000000 in
theorem ww_f10_bench_b92  (C0 : Cx cX10_bench 9 (some .int) RX10 p s m args meth c G DA) {h0 : Nat} {a0 : Nat → Nat} {p1 : Int32} {p2 : Int32} {p3 : Int32}  {k71 : (Nat → Nat → Int32) → (Nat → Int32) → Int32 → Int32 → Int32 → Int32 → Option (Int32 × (Nat → Nat → Int32) × (Nat → Int32))} {res : Int32 × (Nat → Nat → Int32) × (Nat → Int32)} (hk71 : ∀ (A0 : Nat → Nat → Int32) (f0 : Nat → Int32) (l4 : Int32) (l5 : Int32) (l6 : Int32) (l7 : Int32), k71 A0 f0 l4 l5 l6 l7 = some res → ∀ (H : Heap) (locs : List Loc) (ls : Array Slot), WD G DA (wX10 G h0 a0 f0 A0) H → va_S DA s.heap H locs → lv_has ls 9 [(0, .ref h0), (1, .int p1), (2, .int p2), (3, .int p3), (4, .int l4), (5, .int l5), (6, .int l6), (7, .int l7)] → W p l e rmX10_bench s m args below meth c H locs 0 0 (MQ below (QI G DA res.1 (wX10 G h0 a0 res.2.2 res.2.1)) args s 0 0 DA) (F0 m 71 ls [])) : ∀ (A0 : Nat → Nat → Int32) (f0 : Nat → Int32) (l4 : Int32) (l5 : Int32) (l6 : Int32) (l7 : Int32), f10_bench_b92 p1 p2 p3 k71 A0 f0 l4 l5 l6 l7 = some res → ∀ (H : Heap) (locs : List Loc) (ls : Array Slot), WD G DA (wX10 G h0 a0 f0 A0) H → va_S DA s.heap H locs → lv_has ls 9 [(0, .ref h0), (1, .int p1), (2, .int p2), (3, .int p3), (4, .int l4), (5, .int l5), (6, .int l6), (7, .int l7)] → W p l e rmX10_bench s m args below meth c H locs 0 0 (MQ below (QI G DA res.1 (wX10 G h0 a0 res.2.2 res.2.1)) args s 0 0 DA) (F0 m 92 ls []) := by
  obtain ⟨hx, hb, hml, hown, hts⟩ := C0.1
  have hK := C0.2.2.2.1
  intro A0 f0 l4 l5 l6 l7 h _ _ _ hPD hS hl
  unfold f10_bench_b92 at h
  refine lv_aload_n hx hb dX10_bench_92 rfl (lv_at hl 0 rfl) ?_
  refine lv_iload hx hb dX10_bench_93 (lv_at hl 7 rfl) ?_
  refine lv_iload_n hx hb dX10_bench_95 rfl (lv_at hl 2 rfl) ?_
  obtain ⟨q_4, hq_4, h⟩ := ob2 h
  refine kVI (As := [.int l7, .int p2]) (rest := []) C0 (kt_X10_placesOf l G h0 a0 f0 A0 l7 p2 hq_4) gi_V_X10_375_X10_placesOf (n := 2) rfl (by decide +kernel) rfl ⟨rfl, rfl, Nat.le_of_ble_eq_true rfl, Nat.le_of_ble_eq_true rfl⟩ hPD hS 0 10 rfl rfl rfl [0, 1, 2, 3, 4, 5, 6, 7, 8, 9, 10, 11, 12, 13, 14, 15, 16, 17, 18, 19, 20, 21, 22, 23, 24, 25, 26, 27, 28, 29, 30, 31, 32, 33] [] [0, 1, 2, 3, 4, 5, 6, 7, 8, 9, 10, 11, 12, 13, 14, 15, 16, 17, 18, 19, 20, 21, 22, 23, 24, 25, 26, 27, 28, 29, 30, 31, 32, 33] (wN := (wX10 G h0 a0 f0 A0)) rfl rfl rfl rfl rfl hl.1 (Nat.le_of_ble_eq_true rfl) dX10_bench_96 (fun H locs hPD hS => ?_)
  refine lv_aload_n hx hb dX10_bench_99 rfl (lv_at hl 0 rfl) ?_
  refine lv_iload hx hb dX10_bench_100 (lv_at hl 5 rfl) ?_
  refine lv_iload_n hx hb dX10_bench_102 rfl (lv_at hl 2 rfl) ?_
  obtain ⟨q_5, hq_5, h⟩ := ob2 h
  refine kVI (As := [.int l5, .int p2]) (rest := [.int q_4]) C0 (kt_X10_placesOf l G h0 a0 f0 A0 l5 p2 hq_5) gi_V_X10_375_X10_placesOf (n := 2) rfl (by decide +kernel) rfl ⟨rfl, rfl, Nat.le_of_ble_eq_true rfl, Nat.le_of_ble_eq_true rfl⟩ hPD hS 0 10 rfl rfl rfl [0, 1, 2, 3, 4, 5, 6, 7, 8, 9, 10, 11, 12, 13, 14, 15, 16, 17, 18, 19, 20, 21, 22, 23, 24, 25, 26, 27, 28, 29, 30, 31, 32, 33] [] [0, 1, 2, 3, 4, 5, 6, 7, 8, 9, 10, 11, 12, 13, 14, 15, 16, 17, 18, 19, 20, 21, 22, 23, 24, 25, 26, 27, 28, 29, 30, 31, 32, 33] (wN := (wX10 G h0 a0 f0 A0)) rfl rfl rfl rfl rfl hl.1 (Nat.le_of_ble_eq_true rfl) dX10_bench_103 (fun H locs hPD hS => ?_)
  refine lv_icmp_ge (tgt := 113) hx hb dX10_bench_106 (by decide) (fun cc1 => ?_) (fun cc1 => ?_)
  · have h := (if_pos cc1).symm.trans h
    refine lv_iconst (v := 0) hx hb dX10_bench_113 (by decide) ?_
    refine lv_istore (lv' := [(8, .int 0), (0, .ref h0), (1, .int p1), (2, .int p2), (3, .int p3), (4, .int l4), (5, .int l5), (6, .int l6), (7, .int l7)]) hx hb dX10_bench_114 hl (by decide) rfl (fun ls hl => ?_)
    exact ww_f10_bench_l116 C0 hk71 NF A0 f0 l4 l5 l6 l7 0 h _ _ _ hPD hS (lv_sub hl [1, 2, 3, 4, 5, 6, 7, 8, 0] rfl)
  · have h := (if_neg cc1).symm.trans h
    refine lv_iload hx hb dX10_bench_109 (lv_at hl 7 rfl) ?_
    refine lv_istore (lv' := [(5, .int l7), (0, .ref h0), (1, .int p1), (2, .int p2), (3, .int p3), (4, .int l4), (6, .int l6), (7, .int l7)]) hx hb dX10_bench_111 hl (by decide) rfl (fun ls hl => ?_)
    refine lv_iconst (v := 0) hx hb dX10_bench_113 (by decide) ?_
    refine lv_istore (lv' := [(8, .int 0), (5, .int l7), (0, .ref h0), (1, .int p1), (2, .int p2), (3, .int p3), (4, .int l4), (6, .int l6), (7, .int l7)]) hx hb dX10_bench_114 hl (by decide) rfl (fun ls hl => ?_)
    exact ww_f10_bench_l116 C0 hk71 NF A0 f0 l4 l7 l6 l7 0 h _ _ _ hPD hS (lv_sub hl [2, 3, 4, 5, 6, 1, 7, 8, 0] rfl)
set_option maxRecDepth 100000 in
set_option maxHeartbeats 4000000 in
theorem ww_f10_bench_b71  (C0 : Cx cX10_bench 9 (some .int) RX10 p s m args meth c G DA) {h0 : Nat} {a0 : Nat → Nat} {p1 : Int32} {p2 : Int32} {p3 : Int32}  {k71 : (Nat → Nat → Int32) → (Nat → Int32) → Int32 → Int32 → Int32 → Int32 → Option (Int32 × (Nat → Nat → Int32) × (Nat → Int32))} {res : Int32 × (Nat → Nat → Int32) × (Nat → Int32)}  (hk71 : ∀ (A0 : Nat → Nat → Int32) (f0 : Nat → Int32) (l4 : Int32) (l5 : Int32) (l6 : Int32) (l7 : Int32), k71 A0 f0 l4 l5 l6 l7 = some res → ∀ (H : Heap) (locs : List Loc) (ls : Array Slot), WD G DA (wX10 G h0 a0 f0 A0) H → va_S DA s.heap H locs → lv_has ls 9 [(0, .ref h0), (1, .int p1), (2, .int p2), (3, .int p3), (4, .int l4), (5, .int l5), (6, .int l6), (7, .int l7)] → W p l e rmX10_bench s m args below meth c H locs 0 0 (MQ below (QI G DA res.1 (wX10 G h0 a0 res.2.2 res.2.1)) args s 0 0 DA) (F0 m 71 ls [])) : ∀ (A0 : Nat → Nat → Int32) (f0 : Nat → Int32) (l4 : Int32) (l5 : Int32) (l6 : Int32) (l7 : Int32), f10_bench_b71 p1 p2 p3  k71 A0 f0 l4 l5 l6 l7 = some res → ∀ (H : Heap) (locs : List Loc) (ls : Array Slot), WD G DA (wX10 G h0 a0 f0 A0) H → va_S DA s.heap H locs → lv_has ls 9 [(0, .ref h0), (1, .int p1), (2, .int p2), (3, .int p3), (4, .int l4), (5, .int l5), (6, .int l6), (7, .int l7)] → W p l e rmX10_bench s m args below meth c H locs 0 0 (MQ below (QI G DA res.1 (wX10 G h0 a0 res.2.2 res.2.1)) args s 0 0 DA) (F0 m 71 ls []) := by
  obtain ⟨hx, hb, hml, hown, hts⟩ := C0.1
  have hK := C0.2.2.2.1
  intro A0 f0 l4 l5 l6 l7 h _ _ _ hPD hS hl
  unfold f10_bench_b71 at h
  refine lv_iload hx hb dX10_bench_71 (lv_at hl 7 rfl) ?_
  refine lv_iload_n hx hb dX10_bench_73 rfl (lv_at hl 1 rfl) ?_
  refine lv_icmp_ge (tgt := 153) hx hb dX10_bench_74 (by decide) (fun cc1 => ?_) (fun cc1 => ?_)
  · have h := (if_pos cc1).symm.trans h
    refine lv_iload_n hx hb dX10_bench_153 rfl (lv_at hl 3 rfl) ?_
    refine lv_if_ne (tgt := 162) hx hb dX10_bench_154 (by decide) (fun cc1 => ?_) (fun cc1 => ?_)
    · have h := (if_neg cc1).symm.trans h
      refine lv_iload_n hx hb dX10_bench_162 rfl (lv_at hl 3 rfl) ?_
      refine lv_iconst (v := 1) hx hb dX10_bench_163 (by decide) ?_
      refine lv_icmp_ne (tgt := 172) hx hb dX10_bench_164 (by decide) (fun cc1 => ?_) (fun cc1 => ?_)
      · have h := (if_neg cc1).symm.trans h
        refine lv_iload hx hb dX10_bench_172 (lv_at hl 6 rfl) ?_
        obtain rfl := Option.some.inj h
        exact eI C0 hPD.1 hPD.2 hS rfl dX10_bench_174
      · have h := (if_pos cc1).symm.trans h
        refine lv_iload hx hb dX10_bench_167 (lv_at hl 5 rfl) ?_
        refine lv_goto (tgt := 174) hx hb dX10_bench_169 (by decide) ?_
        obtain rfl := Option.some.inj h
        exact eI C0 hPD.1 hPD.2 hS rfl dX10_bench_174
    · have h := (if_pos cc1).symm.trans h
      refine lv_iload hx hb dX10_bench_157 (lv_at hl 4 rfl) ?_
      refine lv_goto (tgt := 174) hx hb dX10_bench_159 (by decide) ?_
      obtain rfl := Option.some.inj h
      exact eI C0 hPD.1 hPD.2 hS rfl dX10_bench_174
  · have h := (if_neg cc1).symm.trans h
    refine lv_aload_n hx hb dX10_bench_77 rfl (lv_at hl 0 rfl) ?_
    refine lv_iload hx hb dX10_bench_78 (lv_at hl 7 rfl) ?_
    refine lv_iload_n hx hb dX10_bench_80 rfl (lv_at hl 1 rfl) ?_
    refine lv_iload_n hx hb dX10_bench_81 rfl (lv_at hl 2 rfl) ?_
    obtain ⟨q_3, hq_3, h⟩ := ob2 h
    refine kVI (As := [.int l7, .int p1, .int p2]) (rest := []) C0 (kt_X10_beatsAll l G h0 a0 f0 A0 l7 p1 p2 hq_3) gi_V_X10_372_X10_beatsAll (n := 3) rfl (by decide +kernel) rfl ⟨rfl, rfl, Nat.le_of_ble_eq_true rfl, Nat.le_of_ble_eq_true rfl⟩ hPD hS 0 10 rfl rfl rfl [0, 1, 2, 3, 4, 5, 6, 7, 8, 9, 10, 11, 12, 13, 14, 15, 16, 17, 18, 19, 20, 21, 22, 23, 24, 25, 26, 27, 28, 29, 30, 31, 32, 33] [] [0, 1, 2, 3, 4, 5, 6, 7, 8, 9, 10, 11, 12, 13, 14, 15, 16, 17, 18, 19, 20, 21, 22, 23, 24, 25, 26, 27, 28, 29, 30, 31, 32, 33] (wN := (wX10 G h0 a0 f0 A0)) rfl rfl rfl rfl rfl hl.1 (Nat.le_of_ble_eq_true rfl) dX10_bench_82 (fun H locs hPD hS => ?_)
    refine lv_if_eq (tgt := 92) hx hb dX10_bench_85 (by decide) (fun cc1 => ?_) (fun cc1 => ?_)
    · have h := (if_pos cc1).symm.trans h
      exact ww_f10_bench_b92 C0 hk71 A0 f0 l4 l5 l6 l7 h _ _ _ hPD hS (lv_sub hl [0, 1, 2, 3, 4, 5, 6, 7] rfl)
    · have h := (if_neg cc1).symm.trans h
      refine lv_iload hx hb dX10_bench_88 (lv_at hl 7 rfl) ?_
      refine lv_istore (lv' := [(4, .int l7), (0, .ref h0), (1, .int p1), (2, .int p2), (3, .int p3), (5, .int l5), (6, .int l6), (7, .int l7)]) hx hb dX10_bench_90 hl (by decide) rfl (fun ls hl => ?_)
      exact ww_f10_bench_b92 C0 hk71 A0 f0 l7 l5 l6 l7 h _ _ _ hPD hS (lv_sub hl [1, 2, 3, 4, 0, 5, 6, 7] rfl)
set_option maxRecDepth 100000 in
set_option maxHeartbeats 4000000 in
theorem ww_f10_bench_l71  (C0 : Cx cX10_bench 9 (some .int) RX10 p s m args meth c G DA) {h0 : Nat} {a0 : Nat → Nat} {p1 : Int32} {p2 : Int32} {p3 : Int32}   {res : Int32 × (Nat → Nat → Int32) × (Nat → Int32)}  : ∀ (n : Nat) (A0 : Nat → Nat → Int32) (f0 : Nat → Int32) (l4 : Int32) (l5 : Int32) (l6 : Int32) (l7 : Int32), f10_bench_l71 p1 p2 p3  n A0 f0 l4 l5 l6 l7 = some res → ∀ (H : Heap) (locs : List Loc) (ls : Array Slot), WD G DA (wX10 G h0 a0 f0 A0) H → va_S DA s.heap H locs → lv_has ls 9 [(0, .ref h0), (1, .int p1), (2, .int p2), (3, .int p3), (4, .int l4), (5, .int l5), (6, .int l6), (7, .int l7)] → W p l e rmX10_bench s m args below meth c H locs 0 0 (MQ below (QI G DA res.1 (wX10 G h0 a0 res.2.2 res.2.1)) args s 0 0 DA) (F0 m 71 ls []) := by
  intro n
  induction n with
  | zero => intro A0 f0 l4 l5 l6 l7 h; cases h
  | succ n ih => intro A0 f0 l4 l5 l6 l7 h; exact ww_f10_bench_b71 C0  ih A0 f0 l4 l5 l6 l7 h
set_option maxRecDepth 100000 in
set_option maxHeartbeats 4000000 in
theorem kt_X10_bench (l : Launch) (G : Gp) (h0 : Nat) (a0 : Nat → Nat) (f0 : Nat → Int32) (A0 : Nat → Nat → Int32) (p1 : Int32) (p2 : Int32) (p3 : Int32) : ∀ {r : Int32 × (Nat → Nat → Int32) × (Nat → Int32)}, f10_bench f0 A0 p1 p2 p3 = some r → CtrI l yX10_bench cX10_bench 9 (some .int) rmX10_bench G [.ref h0, .int p1, .int p2, .int p3] (wX10 G h0 a0 f0 A0) r.1 (wX10 G h0 a0 r.2.2 r.2.1) := by
  intro res h
  refine ctrI_of (cc := cX10_bench) (maxL := 9) (ret := (some .int)) (by decide +kernel) rfl (Nat.le_of_ble_eq_true rfl) (fun p e s m below meth c DA C0 hP hD ls hl => ?_)
  have hPD : WD G DA (wX10 G h0 a0 f0 A0) s.heap := ⟨hP, hD⟩
  have hS : va_S DA s.heap s.heap [] := va_S.rf
  have hl : lv_has ls 9 [(0, .ref h0), (1, .int p1), (2, .int p2), (3, .int p3)] := hl
  obtain ⟨hx, hb, hml, hown, hts⟩ := C0.1
  have hK := C0.2.2.2.1
  unfold f10_bench at h
  refine lv_iload_n hx hb dX10_bench_0 rfl (lv_at hl 1 rfl) ?_
  refine lv_iconst (v := 2) hx hb dX10_bench_1 (by decide) ?_
  refine lv_bipush (v := 6) hx hb dX10_bench_2 (by decide) ?_
  refine kSI (As := [.int p1, .int 2, .int 6]) (rest := []) C0 (kt_X10_in l G  p1 2 6) gi_S_X10_112_X10_in (n := 3) rfl (by decide +kernel) ⟨rfl, rfl, Nat.le_of_ble_eq_true rfl, Nat.le_of_ble_eq_true rfl⟩ hPD hS [] [0, 1, 2, 3, 4, 5, 6, 7, 8, 9, 10, 11, 12, 13, 14, 15, 16, 17, 18, 19, 20, 21, 22, 23, 24, 25, 26, 27, 28, 29, 30, 31, 32, 33] [0, 1, 2, 3, 4, 5, 6, 7, 8, 9, 10, 11, 12, 13, 14, 15, 16, 17, 18, 19, 20, 21, 22, 23, 24, 25, 26, 27, 28, 29, 30, 31, 32, 33] (wN := (wX10 G h0 a0 f0 A0)) rfl rfl rfl rfl rfl hl.1 (Nat.le_of_ble_eq_true rfl) dX10_bench_4 (fun H locs hPD hS => ?_)
  refine lv_if_eq (tgt := 39) hx hb dX10_bench_7 (by decide) (fun cc1 => ?_) (fun cc1 => ?_)
  · have h := (if_pos cc1).symm.trans h
    refine lv_iconst (v := (-1)) hx hb dX10_bench_39 (by decide) ?_
    obtain rfl := Option.some.inj h
    exact eI C0 hPD.1 hPD.2 hS rfl dX10_bench_40
  · have h := (if_neg cc1).symm.trans h
    refine lv_iload_n hx hb dX10_bench_10 rfl (lv_at hl 2 rfl) ?_
    refine lv_iconst (v := 1) hx hb dX10_bench_11 (by decide) ?_
    refine lv_bipush (v := 9) hx hb dX10_bench_12 (by decide) ?_
    refine kSI (As := [.int p2, .int 1, .int 9]) (rest := []) C0 (kt_X10_in l G  p2 1 9) gi_S_X10_112_X10_in (n := 3) rfl (by decide +kernel) ⟨rfl, rfl, Nat.le_of_ble_eq_true rfl, Nat.le_of_ble_eq_true rfl⟩ hPD hS [] [0, 1, 2, 3, 4, 5, 6, 7, 8, 9, 10, 11, 12, 13, 14, 15, 16, 17, 18, 19, 20, 21, 22, 23, 24, 25, 26, 27, 28, 29, 30, 31, 32, 33] [0, 1, 2, 3, 4, 5, 6, 7, 8, 9, 10, 11, 12, 13, 14, 15, 16, 17, 18, 19, 20, 21, 22, 23, 24, 25, 26, 27, 28, 29, 30, 31, 32, 33] (wN := (wX10 G h0 a0 f0 A0)) rfl rfl rfl rfl rfl hl.1 (Nat.le_of_ble_eq_true rfl) dX10_bench_14 (fun H locs hPD hS => ?_)
    refine lv_if_eq (tgt := 39) hx hb dX10_bench_17 (by decide) (fun cc1 => ?_) (fun cc1 => ?_)
    · have h := (if_pos cc1).symm.trans h
      refine lv_iconst (v := (-1)) hx hb dX10_bench_39 (by decide) ?_
      obtain rfl := Option.some.inj h
      exact eI C0 hPD.1 hPD.2 hS rfl dX10_bench_40
    · have h := (if_neg cc1).symm.trans h
      refine lv_iload_n hx hb dX10_bench_20 rfl (lv_at hl 3 rfl) ?_
      refine lv_iconst (v := 0) hx hb dX10_bench_21 (by decide) ?_
      refine lv_iconst (v := 2) hx hb dX10_bench_22 (by decide) ?_
      refine kSI (As := [.int p3, .int 0, .int 2]) (rest := []) C0 (kt_X10_in l G  p3 0 2) gi_S_X10_112_X10_in (n := 3) rfl (by decide +kernel) ⟨rfl, rfl, Nat.le_of_ble_eq_true rfl, Nat.le_of_ble_eq_true rfl⟩ hPD hS [] [0, 1, 2, 3, 4, 5, 6, 7, 8, 9, 10, 11, 12, 13, 14, 15, 16, 17, 18, 19, 20, 21, 22, 23, 24, 25, 26, 27, 28, 29, 30, 31, 32, 33] [0, 1, 2, 3, 4, 5, 6, 7, 8, 9, 10, 11, 12, 13, 14, 15, 16, 17, 18, 19, 20, 21, 22, 23, 24, 25, 26, 27, 28, 29, 30, 31, 32, 33] (wN := (wX10 G h0 a0 f0 A0)) rfl rfl rfl rfl rfl hl.1 (Nat.le_of_ble_eq_true rfl) dX10_bench_23 (fun H locs hPD hS => ?_)
      refine lv_if_eq (tgt := 39) hx hb dX10_bench_26 (by decide) (fun cc1 => ?_) (fun cc1 => ?_)
      · have h := (if_pos cc1).symm.trans h
        refine lv_iconst (v := (-1)) hx hb dX10_bench_39 (by decide) ?_
        obtain rfl := Option.some.inj h
        exact eI C0 hPD.1 hPD.2 hS rfl dX10_bench_40
      · have h := (if_neg cc1).symm.trans h
        refine lv_iload_n hx hb dX10_bench_29 rfl (lv_at hl 1 rfl) ?_
        refine lv_iload_n hx hb dX10_bench_30 rfl (lv_at hl 2 rfl) ?_
        refine lv_imul hx hb dX10_bench_31 ?_
        refine lv_aload_n hx hb dX10_bench_32 rfl (lv_at hl 0 rfl) ?_
        refine va_get (D := G.1) (ci := 10) (v := .int (f0 8)) (C := RX10) (T := TX10) (N := 52) hx hb hts inlX10 hown hK hPD.1 0 rfl rfl 8 (by decide) (hts _ gw_549) (fun _ h9 => h9) rfl dX10_bench_33 ?_
        refine lv_icmp_le (tgt := 41) hx hb dX10_bench_36 (by decide) (fun cc1 => ?_) (fun cc1 => ?_)
        · have h := (if_pos cc1).symm.trans h
          refine lv_aload_n hx hb dX10_bench_41 rfl (lv_at hl 0 rfl) ?_
          refine lv_iconst (v := 0) hx hb dX10_bench_42 (by decide) ?_
          refine va_put (D := G.1) (ci := 10) (v := .int 0) (ty := .int) (C := RX10) (T := TX10) (N := 52) hx hb hts inlX10 tyX10 tyX10_ok nmX10 hown hK hPD.1 hPD.2 hS 0 rfl rfl 8 (by decide) (hts _ gw_549) (fun _ h9 => h9) rfl (by decide +kernel) rfl rfl (Nat.le_of_ble_eq_true rfl) dX10_bench_43 (fun H locs hP hD hS => ?_)
          obtain ⟨f0_1, ef0_1, h⟩ := lvl h
          have hPD : WD G DA (wX10 G h0 a0 f0_1 A0) H := by rw [ef0_1]; exact ⟨hP, hD⟩
          clear ef0_1 hP hD
          refine lv_aload_n hx hb dX10_bench_46 rfl (lv_at hl 0 rfl) ?_
          refine lv_iload_n hx hb dX10_bench_47 rfl (lv_at hl 1 rfl) ?_
          refine lv_iload_n hx hb dX10_bench_48 rfl (lv_at hl 2 rfl) ?_
          obtain ⟨q_2, hq_2, h⟩ := ob2 h
          refine kVI (As := [.int p1, .int p2]) (rest := []) C0 (kt_X10_laysRanks l G h0 a0 f0_1 A0 p1 p2 hq_2) gi_V_X10_369_X10_laysRanks (n := 2) rfl (by decide +kernel) rfl ⟨rfl, rfl, Nat.le_of_ble_eq_true rfl, Nat.le_of_ble_eq_true rfl⟩ hPD hS 0 10 rfl rfl rfl [0, 1, 2, 3, 4, 5, 6, 7, 8, 9, 10, 11, 12, 13, 14, 15, 16, 17, 18, 19, 20, 21, 22, 23, 24, 25, 26, 27, 28, 29, 30, 31, 32, 33] [] [0, 1, 2, 3, 4, 5, 6, 7, 8, 9, 10, 11, 12, 13, 14, 15, 16, 17, 18, 19, 20, 21, 22, 23, 24, 25, 26, 27, 28, 29, 30, 31, 32, 33] (wN := (wX10 G h0 a0 f0_1 q_2.2)) rfl rfl rfl rfl rfl hl.1 (Nat.le_of_ble_eq_true rfl) dX10_bench_49 (fun H locs hPD hS => ?_)
          refine lv_if_ne (tgt := 58) hx hb dX10_bench_52 (by decide) (fun cc1 => ?_) (fun cc1 => ?_)
          · have h := (if_neg cc1).symm.trans h
            refine lv_bipush (v := (-2)) hx hb dX10_bench_58 (by decide) ?_
            refine lv_istore (lv' := [(4, .int (-2)), (0, .ref h0), (1, .int p1), (2, .int p2), (3, .int p3)]) hx hb dX10_bench_60 hl (by decide) rfl (fun ls hl => ?_)
            refine lv_iconst (v := 0) hx hb dX10_bench_62 (by decide) ?_
            refine lv_istore (lv' := [(5, .int 0), (4, .int (-2)), (0, .ref h0), (1, .int p1), (2, .int p2), (3, .int p3)]) hx hb dX10_bench_63 hl (by decide) rfl (fun ls hl => ?_)
            refine lv_iconst (v := 0) hx hb dX10_bench_65 (by decide) ?_
            refine lv_istore (lv' := [(6, .int 0), (5, .int 0), (4, .int (-2)), (0, .ref h0), (1, .int p1), (2, .int p2), (3, .int p3)]) hx hb dX10_bench_66 hl (by decide) rfl (fun ls hl => ?_)
            refine lv_iconst (v := 0) hx hb dX10_bench_68 (by decide) ?_
            refine lv_istore (lv' := [(7, .int 0), (6, .int 0), (5, .int 0), (4, .int (-2)), (0, .ref h0), (1, .int p1), (2, .int p2), (3, .int p3)]) hx hb dX10_bench_69 hl (by decide) rfl (fun ls hl => ?_)
            exact ww_f10_bench_l71 C0 NF q_2.2 f0_1 (-2) 0 0 0 h _ _ _ hPD hS (lv_sub hl [4, 5, 6, 7, 3, 2, 1, 0] rfl)
          · have h := (if_pos cc1).symm.trans h
            refine lv_bipush (v := (-3)) hx hb dX10_bench_55 (by decide) ?_
            obtain rfl := Option.some.inj h
            exact eI C0 hPD.1 hPD.2 hS rfl dX10_bench_57
        · have h := (if_neg cc1).symm.trans h
          refine lv_iconst (v := (-1)) hx hb dX10_bench_39 (by decide) ?_
          obtain rfl := Option.some.inj h
          exact eI C0 hPD.1 hPD.2 hS rfl dX10_bench_40
abbrev rmX10_beats : Room := { frames := 1, cells := 0, slots := 0, locals := 21 }
set_option maxRecDepth 100000 in
set_option maxHeartbeats 4000000 in
theorem kt_X10_beats (l : Launch) (G : Gp) (h0 : Nat) (a0 : Nat → Nat) (f0 : Nat → Int32) (A0 : Nat → Nat → Int32) (p1 : Int32) (p2 : Int32) : ∀ {r : Int32}, f10_beats f0 A0 p1 p2 = some r → CtrI l yX10_beats cX10_beats 5 (some .boolean) rmX10_beats G [.ref h0, .int p1, .int p2] (wX10 G h0 a0 f0 A0) r (wX10 G h0 a0 f0 A0) := by
  intro res h
  refine ctrI_of (cc := cX10_beats) (maxL := 5) (ret := (some .boolean)) (by decide +kernel) rfl (Nat.le_of_ble_eq_true rfl) (fun p e s m below meth c DA C0 hP hD ls hl => ?_)
  have hPD : WD G DA (wX10 G h0 a0 f0 A0) s.heap := ⟨hP, hD⟩
  have hS : va_S DA s.heap s.heap [] := va_S.rf
  have hl : lv_has ls 5 [(0, .ref h0), (1, .int p1), (2, .int p2)] := hl
  obtain ⟨hx, hb, hml, hown, hts⟩ := C0.1
  have hK := C0.2.2.2.1
  unfold f10_beats at h
  refine lv_aload_n hx hb dX10_beats_0 rfl (lv_at hl 0 rfl) ?_
  refine lv_iconst (v := 2) hx hb dX10_beats_1 (by decide) ?_
  refine lv_iload_n hx hb dX10_beats_2 rfl (lv_at hl 1 rfl) ?_
  refine lv_imul hx hb dX10_beats_3 ?_
  obtain ⟨q_1, hq_1, h⟩ := ob2 h
  refine kVI (As := [.int (2 * p1)]) (rest := []) C0 (kt_X10_octet l G h0 a0 f0 A0 (2 * p1) hq_1) gi_V_X10_360_X10_octet (n := 1) rfl (by decide +kernel) rfl ⟨rfl, rfl, Nat.le_of_ble_eq_true rfl, Nat.le_of_ble_eq_true rfl⟩ hPD hS 0 10 rfl rfl rfl [0, 1, 2, 3, 4, 5, 6, 7, 8, 9, 10, 11, 12, 13, 14, 15, 16, 17, 18, 19, 20, 21, 22, 23, 24, 25, 26, 27, 28, 29, 30, 31, 32, 33] [] [0, 1, 2, 3, 4, 5, 6, 7, 8, 9, 10, 11, 12, 13, 14, 15, 16, 17, 18, 19, 20, 21, 22, 23, 24, 25, 26, 27, 28, 29, 30, 31, 32, 33] (wN := (wX10 G h0 a0 f0 A0)) rfl rfl rfl rfl rfl hl.1 (Nat.le_of_ble_eq_true rfl) dX10_beats_4 (fun H locs hPD hS => ?_)
  refine lv_aload_n hx hb dX10_beats_7 rfl (lv_at hl 0 rfl) ?_
  refine lv_iconst (v := 2) hx hb dX10_beats_8 (by decide) ?_
  refine lv_iload_n hx hb dX10_beats_9 rfl (lv_at hl 2 rfl) ?_
  refine lv_imul hx hb dX10_beats_10 ?_
  obtain ⟨q_2, hq_2, h⟩ := ob2 h
  refine kVI (As := [.int (2 * p2)]) (rest := [.int q_1]) C0 (kt_X10_octet l G h0 a0 f0 A0 (2 * p2) hq_2) gi_V_X10_360_X10_octet (n := 1) rfl (by decide +kernel) rfl ⟨rfl, rfl, Nat.le_of_ble_eq_true rfl, Nat.le_of_ble_eq_true rfl⟩ hPD hS 0 10 rfl rfl rfl [0, 1, 2, 3, 4, 5, 6, 7, 8, 9, 10, 11, 12, 13, 14, 15, 16, 17, 18, 19, 20, 21, 22, 23, 24, 25, 26, 27, 28, 29, 30, 31, 32, 33] [] [0, 1, 2, 3, 4, 5, 6, 7, 8, 9, 10, 11, 12, 13, 14, 15, 16, 17, 18, 19, 20, 21, 22, 23, 24, 25, 26, 27, 28, 29, 30, 31, 32, 33] (wN := (wX10 G h0 a0 f0 A0)) rfl rfl rfl rfl rfl hl.1 (Nat.le_of_ble_eq_true rfl) dX10_beats_11 (fun H locs hPD hS => ?_)
  refine lv_isub hx hb dX10_beats_14 ?_
  refine lv_istore_n (lv' := [(3, .int (q_1 - q_2)), (0, .ref h0), (1, .int p1), (2, .int p2)]) hx hb dX10_beats_15 rfl hl (by decide) rfl (fun ls hl => ?_)
  refine lv_aload_n hx hb dX10_beats_16 rfl (lv_at hl 1 rfl) ?_
  refine lv_iconst (v := 2) hx hb dX10_beats_17 (by decide) ?_
  refine lv_iload_n hx hb dX10_beats_18 rfl (lv_at hl 2 rfl) ?_
  refine lv_imul hx hb dX10_beats_19 ?_
  refine lv_iconst (v := 1) hx hb dX10_beats_20 (by decide) ?_
  refine lv_iadd hx hb dX10_beats_21 ?_
  obtain ⟨q_3, hq_3, h⟩ := ob2 h
  refine kVI (As := [.int ((2 * p1) + 1)]) (rest := []) C0 (kt_X10_octet l G h0 a0 f0 A0 ((2 * p1) + 1) hq_3) gi_V_X10_360_X10_octet (n := 1) rfl (by decide +kernel) rfl ⟨rfl, rfl, Nat.le_of_ble_eq_true rfl, Nat.le_of_ble_eq_true rfl⟩ hPD hS 0 10 rfl rfl rfl [0, 1, 2, 3, 4, 5, 6, 7, 8, 9, 10, 11, 12, 13, 14, 15, 16, 17, 18, 19, 20, 21, 22, 23, 24, 25, 26, 27, 28, 29, 30, 31, 32, 33] [] [0, 1, 2, 3, 4, 5, 6, 7, 8, 9, 10, 11, 12, 13, 14, 15, 16, 17, 18, 19, 20, 21, 22, 23, 24, 25, 26, 27, 28, 29, 30, 31, 32, 33] (wN := (wX10 G h0 a0 f0 A0)) rfl rfl rfl rfl rfl hl.1 (Nat.le_of_ble_eq_true rfl) dX10_beats_22 (fun H locs hPD hS => ?_)
  refine lv_aload_n hx hb dX10_beats_25 rfl (lv_at hl 1 rfl) ?_
  refine lv_iconst (v := 2) hx hb dX10_beats_26 (by decide) ?_
  refine lv_iload_n hx hb dX10_beats_27 rfl (lv_at hl 3 rfl) ?_
  refine lv_imul hx hb dX10_beats_28 ?_
  refine lv_iconst (v := 1) hx hb dX10_beats_29 (by decide) ?_
  refine lv_iadd hx hb dX10_beats_30 ?_
  obtain ⟨q_4, hq_4, h⟩ := ob2 h
  refine kVI (As := [.int ((2 * p2) + 1)]) (rest := [.int q_3]) C0 (kt_X10_octet l G h0 a0 f0 A0 ((2 * p2) + 1) hq_4) gi_V_X10_360_X10_octet (n := 1) rfl (by decide +kernel) rfl ⟨rfl, rfl, Nat.le_of_ble_eq_true rfl, Nat.le_of_ble_eq_true rfl⟩ hPD hS 0 10 rfl rfl rfl [0, 1, 2, 3, 4, 5, 6, 7, 8, 9, 10, 11, 12, 13, 14, 15, 16, 17, 18, 19, 20, 21, 22, 23, 24, 25, 26, 27, 28, 29, 30, 31, 32, 33] [] [0, 1, 2, 3, 4, 5, 6, 7, 8, 9, 10, 11, 12, 13, 14, 15, 16, 17, 18, 19, 20, 21, 22, 23, 24, 25, 26, 27, 28, 29, 30, 31, 32, 33] (wN := (wX10 G h0 a0 f0 A0)) rfl rfl rfl rfl rfl hl.1 (Nat.le_of_ble_eq_true rfl) dX10_beats_31 (fun H locs hPD hS => ?_)
  refine lv_isub hx hb dX10_beats_34 ?_
  refine lv_istore (lv' := [(4, .int (q_3 - q_4)), (3, .int (q_1 - q_2)), (0, .ref h0), (1, .int p1), (2, .int p2)]) hx hb dX10_beats_35 hl (by decide) rfl (fun ls hl => ?_)
  refine lv_iload_n hx hb dX10_beats_37 rfl (lv_at hl 1 rfl) ?_
  refine lv_if_lt (tgt := 57) hx hb dX10_beats_38 (by decide) (fun cc1 => ?_) (fun cc1 => ?_)
  · have h := (if_pos cc1).symm.trans h
    refine lv_iconst (v := 0) hx hb dX10_beats_57 (by decide) ?_
    obtain rfl := Option.some.inj h
    exact eZ C0 hPD.1 hPD.2 hS rfl rfl dX10_beats_58
  · have h := (if_neg cc1).symm.trans h
    refine lv_iload hx hb dX10_beats_41 (lv_at hl 0 rfl) ?_
    refine lv_if_lt (tgt := 57) hx hb dX10_beats_43 (by decide) (fun cc1 => ?_) (fun cc1 => ?_)
    · have h := (if_pos cc1).symm.trans h
      refine lv_iconst (v := 0) hx hb dX10_beats_57 (by decide) ?_
      obtain rfl := Option.some.inj h
      exact eZ C0 hPD.1 hPD.2 hS rfl rfl dX10_beats_58
    · have h := (if_neg cc1).symm.trans h
      refine lv_iload_n hx hb dX10_beats_46 rfl (lv_at hl 1 rfl) ?_
      refine lv_iload hx hb dX10_beats_47 (lv_at hl 0 rfl) ?_
      refine lv_iadd hx hb dX10_beats_49 ?_
      refine lv_if_le (tgt := 57) hx hb dX10_beats_50 (by decide) (fun cc1 => ?_) (fun cc1 => ?_)
      · have h := (if_pos cc1).symm.trans h
        refine lv_iconst (v := 0) hx hb dX10_beats_57 (by decide) ?_
        obtain rfl := Option.some.inj h
        exact eZ C0 hPD.1 hPD.2 hS rfl rfl dX10_beats_58
      · have h := (if_neg cc1).symm.trans h
        refine lv_iconst (v := 1) hx hb dX10_beats_53 (by decide) ?_
        refine lv_goto (tgt := 58) hx hb dX10_beats_54 (by decide) ?_
        obtain rfl := Option.some.inj h
        exact eZ C0 hPD.1 hPD.2 hS rfl rfl dX10_beats_58
end WALK
