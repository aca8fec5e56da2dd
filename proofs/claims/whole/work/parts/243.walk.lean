section WALK
variable {p : Program} {l : Launch} {e : Env} {s : State} {m : MethodId} {args : Array Value} {below : List Frame} {meth : Method} {c : Code} {G : Gp} {DA : Nat → Prop}
set_option maxRecDepth 100000 in
set_option maxHeartbeats 4000000 in
theorem ww_f10_laysSteps_b69  (C0 : Cx cX10_laysSteps 6 none RX10 p s m args meth c G DA) {h0 : Nat} {a0 : Nat → Nat} {f0 : Nat → Int32} {p1 : Int32}  {k53 : (Nat → Nat → Int32) → Int32 → Int32 → Option ((Nat → Nat → Int32))} {k69 : (Nat → Nat → Int32) → Int32 → Int32 → Int32 → Int32 → Option ((Nat → Nat → Int32))} {res : (Nat → Nat → Int32)} (hk53 : ∀ (A0 : Nat → Nat → Int32) (l2 : Int32) (l3 : Int32), k53 A0 l2 l3 = some res → ∀ (H : Heap) (locs : List Loc) (ls : Array Slot), WD G DA (wX10 G h0 a0 f0 A0) H → va_S DA s.heap H locs → lv_has ls 6 [(0, .ref h0), (1, .int p1), (2, .int l2), (3, .int l3)] → W p l e rmX10_laysSteps s m args below meth c H locs 0 0 (MQ below (QV G DA (wX10 G h0 a0 f0 res)) args s 0 0 DA) (F0 m 53 ls [])) (hk69 : ∀ (A0 : Nat → Nat → Int32) (l2 : Int32) (l3 : Int32) (l4 : Int32) (l5 : Int32), k69 A0 l2 l3 l4 l5 = some res → ∀ (H : Heap) (locs : List Loc) (ls : Array Slot), WD G DA (wX10 G h0 a0 f0 A0) H → va_S DA s.heap H locs → lv_has ls 6 [(0, .ref h0), (1, .int p1), (2, .int l2), (3, .int l3), (4, .int l4), (5, .int l5)] → W p l e rmX10_laysSteps s m args below meth c H locs 0 0 (MQ below (QV G DA (wX10 G h0 a0 f0 res)) args s 0 0 DA) (F0 m 69 ls [])) : ∀ (A0 : Nat → Nat → Int32) (l2 : Int32) (l3 : Int32) (l4 : Int32) (l5 : Int32), f10_laysSteps_b69 f0 p1 k53 k69 A0 l2 l3 l4 l5 = some res → ∀ (H : Heap) (locs : List Loc) (ls : Array Slot), WD G DA (wX10 G h0 a0 f0 A0) H → va_S DA s.heap H locs → lv_has ls 6 [(0, .ref h0), (1, .int p1), (2, .int l2), (3, .int l3), (4, .int l4), (5, .int l5)] → W p l e rmX10_laysSteps s m args below meth c H locs 0 0 (MQ below (QV G DA (wX10 G h0 a0 f0 res)) args s 0 0 DA) (F0 m 69 ls []) := by
  obtain ⟨hx, hb, hml, hown, hts⟩ := C0.1
  have hK := C0.2.2.2.1
  intro A0 l2 l3 l4 l5 h _ _ _ hPD hS hl
  unfold f10_laysSteps_b69 at h
  refine lv_iload hx hb dX10_laysSteps_69 (lv_at hl 5 rfl) ?_
  refine lv_bipush (v := 16) hx hb dX10_laysSteps_71 (by decide) ?_
  refine lv_icmp_ge (tgt := 180) hx hb dX10_laysSteps_73 (by decide) (fun cc1 => ?_) (fun cc1 => ?_)
  · have h := (if_pos cc1).symm.trans h
    refine lv_iinc (v := l3 + 1) (lv' := [(3, .int (l3 + 1)), (0, .ref h0), (1, .int p1), (2, .int l2), (4, .int l4), (5, .int l5)]) hx hb dX10_laysSteps_180 hl (k := 3) rfl rfl (by decide) rfl (fun ls hl => ?_)
    refine lv_goto (tgt := 53) hx hb dX10_laysSteps_183 (by decide) ?_
    exact hk53 A0 l2 (l3 + 1) h _ _ _ hPD hS (lv_sub hl [1, 2, 3, 0] rfl)
  · have h := (if_neg cc1).symm.trans h
    refine lv_aload_n hx hb dX10_laysSteps_76 rfl (lv_at hl 0 rfl) ?_
    refine va_get (D := G.1) (ci := 10) (v := .ref (a0 3)) (C := RX10) (T := TX10) (N := 52) hx hb hts inlX10 hown hK hPD.1 0 rfl rfl 3 (by decide) (hts _ gw_663) (fun _ h9 => h9) rfl dX10_laysSteps_77 ?_
    refine lv_iload hx hb dX10_laysSteps_80 (lv_at hl 4 rfl) ?_
    obtain ⟨hi_7, h⟩ := ob h
    refine va_iald hx hb hK hPD.1 4 1 rfl rfl hi_7 dX10_laysSteps_82 ?_
    refine lv_iload hx hb dX10_laysSteps_83 (lv_at hl 5 rfl) ?_
    refine kSI (As := [.int (gx (A0 3) l4), .int l5]) (rest := []) C0 (kt_X10_has l G  (gx (A0 3) l4) l5) gi_S_X10_120_X10_has (n := 2) rfl (by decide +kernel) ⟨rfl, rfl, Nat.le_of_ble_eq_true rfl, Nat.le_of_ble_eq_true rfl⟩ hPD hS [] [0, 1, 2, 3, 4, 5, 6, 7, 8, 9, 10, 11, 12, 13, 14, 15, 16, 17, 18, 19, 20, 21, 22, 23, 24, 25, 26, 27, 28, 29, 30, 31, 32, 33] [0, 1, 2, 3, 4, 5, 6, 7, 8, 9, 10, 11, 12, 13, 14, 15, 16, 17, 18, 19, 20, 21, 22, 23, 24, 25, 26, 27, 28, 29, 30, 31, 32, 33] (wr := (wX10 G h0 a0 f0 A0)) (wN := (wX10 G h0 a0 f0 A0)) rfl rfl rfl rfl rfl hl.1 (Nat.le_of_ble_eq_true rfl) dX10_laysSteps_85 (fun H locs hPD hS => ?_)
    refine lv_if_ne (tgt := 94) hx hb dX10_laysSteps_88 (by decide) (fun cc1 => ?_) (fun cc1 => ?_)
    · have h := (if_neg cc1).symm.trans h
      refine lv_aload_n hx hb dX10_laysSteps_94 rfl (lv_at hl 0 rfl) ?_
      refine va_get (D := G.1) (ci := 10) (v := .ref (a0 46)) (C := RX10) (T := TX10) (N := 52) hx hb hts inlX10 hown hK hPD.1 0 rfl rfl 46 (by decide) (hts _ gw_783) (fun _ h9 => h9) rfl dX10_laysSteps_95 ?_
      refine lv_iload hx hb dX10_laysSteps_98 (lv_at hl 5 rfl) ?_
      obtain ⟨hi_8, h⟩ := ob h
      refine va_iald hx hb hK hPD.1 29 1 rfl rfl hi_8 dX10_laysSteps_100 ?_
      refine lv_iconst (v := (-1)) hx hb dX10_laysSteps_101 (by decide) ?_
      refine lv_icmp_ne (tgt := 133) hx hb dX10_laysSteps_102 (by decide) (fun cc1 => ?_) (fun cc1 => ?_)
      · have h := (if_neg cc1).symm.trans h
        exact ww_f10_laysSteps_b133 C0 hk69 A0 l2 l3 l4 l5 h _ _ _ hPD hS (lv_sub hl [0, 1, 2, 3, 4, 5] rfl)
      · have h := (if_pos cc1).symm.trans h
        refine lv_aload_n hx hb dX10_laysSteps_105 rfl (lv_at hl 0 rfl) ?_
        refine va_get (D := G.1) (ci := 10) (v := .ref (a0 46)) (C := RX10) (T := TX10) (N := 52) hx hb hts inlX10 hown hK hPD.1 0 rfl rfl 46 (by decide) (hts _ gw_783) (fun _ h9 => h9) rfl dX10_laysSteps_106 ?_
        refine lv_iload hx hb dX10_laysSteps_109 (lv_at hl 5 rfl) ?_
        refine lv_aload_n hx hb dX10_laysSteps_111 rfl (lv_at hl 0 rfl) ?_
        refine va_get (D := G.1) (ci := 10) (v := .ref (a0 46)) (C := RX10) (T := TX10) (N := 52) hx hb hts inlX10 hown hK hPD.1 0 rfl rfl 46 (by decide) (hts _ gw_783) (fun _ h9 => h9) rfl dX10_laysSteps_112 ?_
        refine lv_iload hx hb dX10_laysSteps_115 (lv_at hl 4 rfl) ?_
        obtain ⟨hi_15, h⟩ := ob h
        refine va_iald hx hb hK hPD.1 29 1 rfl rfl hi_15 dX10_laysSteps_117 ?_
        refine lv_iconst (v := 1) hx hb dX10_laysSteps_118 (by decide) ?_
        refine lv_iadd hx hb dX10_laysSteps_119 ?_
        obtain ⟨hi_16, h⟩ := ob h
        refine va_iast hx hb hK hPD.1 hPD.2 hS 29 1 rfl rfl hi_16 dX10_laysSteps_120 (fun H locs hP hD hS => ?_)
        obtain ⟨A0_17, eA0_17, h⟩ := lvl h
        have hPD : WD G DA (wX10 G h0 a0 f0 A0_17) H := by rw [eA0_17]; exact ⟨hP, hD⟩
        clear eA0_17 hP hD
        refine lv_aload_n hx hb dX10_laysSteps_121 rfl (lv_at hl 0 rfl) ?_
        refine va_get (D := G.1) (ci := 10) (v := .ref (a0 45)) (C := RX10) (T := TX10) (N := 52) hx hb hts inlX10 hown hK hPD.1 0 rfl rfl 45 (by decide) (hts _ gw_785) (fun _ h9 => h9) rfl dX10_laysSteps_122 ?_
        refine lv_iload_n hx hb dX10_laysSteps_125 rfl (lv_at hl 2 rfl) ?_
        refine lv_iload hx hb dX10_laysSteps_126 (lv_at hl 5 rfl) ?_
        obtain ⟨hi_18, h⟩ := ob h
        refine va_iast hx hb hK hPD.1 hPD.2 hS 28 1 rfl rfl hi_18 dX10_laysSteps_128 (fun H locs hP hD hS => ?_)
        obtain ⟨A0_19, eA0_19, h⟩ := lvl h
        have hPD : WD G DA (wX10 G h0 a0 f0 A0_19) H := by rw [eA0_19]; exact ⟨hP, hD⟩
        clear eA0_19 hP hD
        refine lv_iload_n hx hb dX10_laysSteps_129 rfl (lv_at hl 2 rfl) ?_
        refine lv_iconst (v := 1) hx hb dX10_laysSteps_130 (by decide) ?_
        refine lv_iadd hx hb dX10_laysSteps_131 ?_
        refine lv_istore_n (lv' := [(2, .int (l2 + 1)), (0, .ref h0), (1, .int p1), (3, .int l3), (4, .int l4), (5, .int l5)]) hx hb dX10_laysSteps_132 rfl hl (by decide) rfl (fun ls hl => ?_)
        exact ww_f10_laysSteps_b133 C0 hk69 A0_19 (l2 + 1) l3 l4 l5 h _ _ _ hPD hS (lv_sub hl [1, 2, 0, 3, 4, 5] rfl)
    · have h := (if_pos cc1).symm.trans h
      refine lv_goto (tgt := 174) hx hb dX10_laysSteps_91 (by decide) ?_
      refine lv_iinc (v := l5 + 1) (lv' := [(5, .int (l5 + 1)), (0, .ref h0), (1, .int p1), (2, .int l2), (3, .int l3), (4, .int l4)]) hx hb dX10_laysSteps_174 hl (k := 5) rfl rfl (by decide) rfl (fun ls hl => ?_)
      refine lv_goto (tgt := 69) hx hb dX10_laysSteps_177 (by decide) ?_
      exact hk69 A0 l2 l3 l4 (l5 + 1) h _ _ _ hPD hS (lv_sub hl [1, 2, 3, 4, 5, 0] rfl)
set_option maxRecDepth 100000 in
set_option maxHeartbeats 4000000 in
theorem ww_f10_laysSteps_l69  (C0 : Cx cX10_laysSteps 6 none RX10 p s m args meth c G DA) {h0 : Nat} {a0 : Nat → Nat} {f0 : Nat → Int32} {p1 : Int32}  {k53 : (Nat → Nat → Int32) → Int32 → Int32 → Option ((Nat → Nat → Int32))} {res : (Nat → Nat → Int32)} (hk53 : ∀ (A0 : Nat → Nat → Int32) (l2 : Int32) (l3 : Int32), k53 A0 l2 l3 = some res → ∀ (H : Heap) (locs : List Loc) (ls : Array Slot), WD G DA (wX10 G h0 a0 f0 A0) H → va_S DA s.heap H locs → lv_has ls 6 [(0, .ref h0), (1, .int p1), (2, .int l2), (3, .int l3)] → W p l e rmX10_laysSteps s m args below meth c H locs 0 0 (MQ below (QV G DA (wX10 G h0 a0 f0 res)) args s 0 0 DA) (F0 m 53 ls [])) : ∀ (n : Nat) (A0 : Nat → Nat → Int32) (l2 : Int32) (l3 : Int32) (l4 : Int32) (l5 : Int32), f10_laysSteps_l69 f0 p1 k53 n A0 l2 l3 l4 l5 = some res → ∀ (H : Heap) (locs : List Loc) (ls : Array Slot), WD G DA (wX10 G h0 a0 f0 A0) H → va_S DA s.heap H locs → lv_has ls 6 [(0, .ref h0), (1, .int p1), (2, .int l2), (3, .int l3), (4, .int l4), (5, .int l5)] → W p l e rmX10_laysSteps s m args below meth c H locs 0 0 (MQ below (QV G DA (wX10 G h0 a0 f0 res)) args s 0 0 DA) (F0 m 69 ls []) := by
  intro n
  induction n with
  | zero => intro A0 l2 l3 l4 l5 h; cases h
  | succ n ih => intro A0 l2 l3 l4 l5 h; exact ww_f10_laysSteps_b69 C0 hk53 ih A0 l2 l3 l4 l5 h
set_option maxRecDepth 100000 in
set_option maxHeartbeats 4000000 in
theorem ww_f10_laysSteps_b53  (C0 : Cx cX10_laysSteps 6 none RX10 p s m args meth c G DA) {h0 : Nat} {a0 : Nat → Nat} {f0 : Nat → Int32} {p1 : Int32}  {k53 : (Nat → Nat → Int32) → Int32 → Int32 → Option ((Nat → Nat → Int32))} {res : (Nat → Nat → Int32)}  (hk53 : ∀ (A0 : Nat → Nat → Int32) (l2 : Int32) (l3 : Int32), k53 A0 l2 l3 = some res → ∀ (H : Heap) (locs : List Loc) (ls : Array Slot), WD G DA (wX10 G h0 a0 f0 A0) H → va_S DA s.heap H locs → lv_has ls 6 [(0, .ref h0), (1, .int p1), (2, .int l2), (3, .int l3)] → W p l e rmX10_laysSteps s m args below meth c H locs 0 0 (MQ below (QV G DA (wX10 G h0 a0 f0 res)) args s 0 0 DA) (F0 m 53 ls [])) : ∀ (A0 : Nat → Nat → Int32) (l2 : Int32) (l3 : Int32), f10_laysSteps_b53 f0 p1  k53 A0 l2 l3 = some res → ∀ (H : Heap) (locs : List Loc) (ls : Array Slot), WD G DA (wX10 G h0 a0 f0 A0) H → va_S DA s.heap H locs → lv_has ls 6 [(0, .ref h0), (1, .int p1), (2, .int l2), (3, .int l3)] → W p l e rmX10_laysSteps s m args below meth c H locs 0 0 (MQ below (QV G DA (wX10 G h0 a0 f0 res)) args s 0 0 DA) (F0 m 53 ls []) := by
  obtain ⟨hx, hb, hml, hown, hts⟩ := C0.1
  have hK := C0.2.2.2.1
  intro A0 l2 l3 h _ _ _ hPD hS hl
  unfold f10_laysSteps_b53 at h
  refine lv_iload_n hx hb dX10_laysSteps_53 rfl (lv_at hl 3 rfl) ?_
  refine lv_iload_n hx hb dX10_laysSteps_54 rfl (lv_at hl 2 rfl) ?_
  refine lv_icmp_ge (tgt := 186) hx hb dX10_laysSteps_55 (by decide) (fun cc1 => ?_) (fun cc1 => ?_)
  · have h := (if_pos cc1).symm.trans h
    obtain rfl := Option.some.inj h
    exact eV C0 hPD.1 hPD.2 hS dX10_laysSteps_186
  · have h := (if_neg cc1).symm.trans h
    refine lv_aload_n hx hb dX10_laysSteps_58 rfl (lv_at hl 0 rfl) ?_
    refine va_get (D := G.1) (ci := 10) (v := .ref (a0 45)) (C := RX10) (T := TX10) (N := 52) hx hb hts inlX10 hown hK hPD.1 0 rfl rfl 45 (by decide) (hts _ gw_785) (fun _ h9 => h9) rfl dX10_laysSteps_59 ?_
    refine lv_iload_n hx hb dX10_laysSteps_62 rfl (lv_at hl 3 rfl) ?_
    obtain ⟨hi_6, h⟩ := ob h
    refine va_iald hx hb hK hPD.1 28 1 rfl rfl hi_6 dX10_laysSteps_63 ?_
    refine lv_istore (lv' := [(4, .int (gx (A0 45) l3)), (0, .ref h0), (1, .int p1), (2, .int l2), (3, .int l3)]) hx hb dX10_laysSteps_64 hl (by decide) rfl (fun ls hl => ?_)
    refine lv_iconst (v := 0) hx hb dX10_laysSteps_66 (by decide) ?_
    refine lv_istore (lv' := [(5, .int 0), (4, .int (gx (A0 45) l3)), (0, .ref h0), (1, .int p1), (2, .int l2), (3, .int l3)]) hx hb dX10_laysSteps_67 hl (by decide) rfl (fun ls hl => ?_)
    exact ww_f10_laysSteps_l69 C0 hk53 NF A0 l2 l3 (gx (A0 45) l3) 0 h _ _ _ hPD hS (lv_sub hl [2, 3, 4, 5, 1, 0] rfl)
set_option maxRecDepth 100000 in
set_option maxHeartbeats 4000000 in
theorem ww_f10_laysSteps_l53  (C0 : Cx cX10_laysSteps 6 none RX10 p s m args meth c G DA) {h0 : Nat} {a0 : Nat → Nat} {f0 : Nat → Int32} {p1 : Int32}   {res : (Nat → Nat → Int32)}  : ∀ (n : Nat) (A0 : Nat → Nat → Int32) (l2 : Int32) (l3 : Int32), f10_laysSteps_l53 f0 p1  n A0 l2 l3 = some res → ∀ (H : Heap) (locs : List Loc) (ls : Array Slot), WD G DA (wX10 G h0 a0 f0 A0) H → va_S DA s.heap H locs → lv_has ls 6 [(0, .ref h0), (1, .int p1), (2, .int l2), (3, .int l3)] → W p l e rmX10_laysSteps s m args below meth c H locs 0 0 (MQ below (QV G DA (wX10 G h0 a0 f0 res)) args s 0 0 DA) (F0 m 53 ls []) := by
  intro n
  induction n with
  | zero => intro A0 l2 l3 h; cases h
  | succ n ih => intro A0 l2 l3 h; exact ww_f10_laysSteps_b53 C0  ih A0 l2 l3 h
set_option maxRecDepth 100000 in
set_option maxHeartbeats 4000000 in
theorem ww_f10_laysSteps_b2  (C0 : Cx cX10_laysSteps 6 none RX10 p s m args meth c G DA) {h0 : Nat} {a0 : Nat → Nat} {f0 : Nat → Int32} {p1 : Int32}  {k2 : (Nat → Nat → Int32) → Int32 → Option ((Nat → Nat → Int32))} {res : (Nat → Nat → Int32)}  (hk2 : ∀ (A0 : Nat → Nat → Int32) (l2 : Int32), k2 A0 l2 = some res → ∀ (H : Heap) (locs : List Loc) (ls : Array Slot), WD G DA (wX10 G h0 a0 f0 A0) H → va_S DA s.heap H locs → lv_has ls 6 [(0, .ref h0), (1, .int p1), (2, .int l2)] → W p l e rmX10_laysSteps s m args below meth c H locs 0 0 (MQ below (QV G DA (wX10 G h0 a0 f0 res)) args s 0 0 DA) (F0 m 2 ls [])) : ∀ (A0 : Nat → Nat → Int32) (l2 : Int32), f10_laysSteps_b2 f0 p1  k2 A0 l2 = some res → ∀ (H : Heap) (locs : List Loc) (ls : Array Slot), WD G DA (wX10 G h0 a0 f0 A0) H → va_S DA s.heap H locs → lv_has ls 6 [(0, .ref h0), (1, .int p1), (2, .int l2)] → W p l e rmX10_laysSteps s m args below meth c H locs 0 0 (MQ below (QV G DA (wX10 G h0 a0 f0 res)) args s 0 0 DA) (F0 m 2 ls []) := by
  obtain ⟨hx, hb, hml, hown, hts⟩ := C0.1
  have hK := C0.2.2.2.1
  intro A0 l2 h _ _ _ hPD hS hl
  unfold f10_laysSteps_b2 at h
  refine lv_iload_n hx hb dX10_laysSteps_2 rfl (lv_at hl 2 rfl) ?_
  refine lv_bipush (v := 16) hx hb dX10_laysSteps_3 (by decide) ?_
  refine lv_icmp_ge (tgt := 28) hx hb dX10_laysSteps_5 (by decide) (fun cc1 => ?_) (fun cc1 => ?_)
  · have h := (if_pos cc1).symm.trans h
    refine lv_aload_n hx hb dX10_laysSteps_28 rfl (lv_at hl 0 rfl) ?_
    refine va_get (D := G.1) (ci := 10) (v := .ref (a0 46)) (C := RX10) (T := TX10) (N := 52) hx hb hts inlX10 hown hK hPD.1 0 rfl rfl 46 (by decide) (hts _ gw_783) (fun _ h9 => h9) rfl dX10_laysSteps_29 ?_
    refine lv_iload_n hx hb dX10_laysSteps_32 rfl (lv_at hl 1 rfl) ?_
    refine lv_iconst (v := 0) hx hb dX10_laysSteps_33 (by decide) ?_
    obtain ⟨hi_1, h⟩ := ob h
    refine va_iast hx hb hK hPD.1 hPD.2 hS 29 1 rfl rfl hi_1 dX10_laysSteps_34 (fun H locs hP hD hS => ?_)
    obtain ⟨A0_2, eA0_2, h⟩ := lvl h
    have hPD : WD G DA (wX10 G h0 a0 f0 A0_2) H := by rw [eA0_2]; exact ⟨hP, hD⟩
    clear eA0_2 hP hD
    refine lv_aload_n hx hb dX10_laysSteps_35 rfl (lv_at hl 0 rfl) ?_
    refine va_get (D := G.1) (ci := 10) (v := .ref (a0 47)) (C := RX10) (T := TX10) (N := 52) hx hb hts inlX10 hown hK hPD.1 0 rfl rfl 47 (by decide) (hts _ gw_784) (fun _ h9 => h9) rfl dX10_laysSteps_36 ?_
    refine lv_iload_n hx hb dX10_laysSteps_39 rfl (lv_at hl 1 rfl) ?_
    refine lv_iconst (v := 1) hx hb dX10_laysSteps_40 (by decide) ?_
    obtain ⟨hi_3, h⟩ := ob h
    refine va_iast hx hb hK hPD.1 hPD.2 hS 30 1 rfl rfl hi_3 dX10_laysSteps_41 (fun H locs hP hD hS => ?_)
    obtain ⟨A0_4, eA0_4, h⟩ := lvl h
    have hPD : WD G DA (wX10 G h0 a0 f0 A0_4) H := by rw [eA0_4]; exact ⟨hP, hD⟩
    clear eA0_4 hP hD
    refine lv_aload_n hx hb dX10_laysSteps_42 rfl (lv_at hl 0 rfl) ?_
    refine va_get (D := G.1) (ci := 10) (v := .ref (a0 45)) (C := RX10) (T := TX10) (N := 52) hx hb hts inlX10 hown hK hPD.1 0 rfl rfl 45 (by decide) (hts _ gw_785) (fun _ h9 => h9) rfl dX10_laysSteps_43 ?_
    refine lv_iconst (v := 0) hx hb dX10_laysSteps_46 (by decide) ?_
    refine lv_iload_n hx hb dX10_laysSteps_47 rfl (lv_at hl 1 rfl) ?_
    refine va_iast hx hb hK hPD.1 hPD.2 hS 28 1 rfl rfl (vin rfl) dX10_laysSteps_48 (fun H locs hP hD hS => ?_)
    obtain ⟨A0_5, eA0_5, h⟩ := lvl h
    have hPD : WD G DA (wX10 G h0 a0 f0 A0_5) H := by rw [eA0_5]; exact ⟨hP, hD⟩
    clear eA0_5 hP hD
    refine lv_iconst (v := 1) hx hb dX10_laysSteps_49 (by decide) ?_
    refine lv_istore_n (lv' := [(2, .int 1), (0, .ref h0), (1, .int p1)]) hx hb dX10_laysSteps_50 rfl hl (by decide) rfl (fun ls hl => ?_)
    refine lv_iconst (v := 0) hx hb dX10_laysSteps_51 (by decide) ?_
    refine lv_istore_n (lv' := [(3, .int 0), (2, .int 1), (0, .ref h0), (1, .int p1)]) hx hb dX10_laysSteps_52 rfl hl (by decide) rfl (fun ls hl => ?_)
    exact ww_f10_laysSteps_l53 C0 NF A0_5 1 0 h _ _ _ hPD hS (lv_sub hl [2, 3, 1, 0] rfl)
  · have h := (if_neg cc1).symm.trans h
    refine lv_aload_n hx hb dX10_laysSteps_8 rfl (lv_at hl 0 rfl) ?_
    refine va_get (D := G.1) (ci := 10) (v := .ref (a0 46)) (C := RX10) (T := TX10) (N := 52) hx hb hts inlX10 hown hK hPD.1 0 rfl rfl 46 (by decide) (hts _ gw_783) (fun _ h9 => h9) rfl dX10_laysSteps_9 ?_
    refine lv_iload_n hx hb dX10_laysSteps_12 rfl (lv_at hl 2 rfl) ?_
    refine lv_iconst (v := (-1)) hx hb dX10_laysSteps_13 (by decide) ?_
    obtain ⟨hi_20, h⟩ := ob h
    refine va_iast hx hb hK hPD.1 hPD.2 hS 29 1 rfl rfl hi_20 dX10_laysSteps_14 (fun H locs hP hD hS => ?_)
    obtain ⟨A0_21, eA0_21, h⟩ := lvl h
    have hPD : WD G DA (wX10 G h0 a0 f0 A0_21) H := by rw [eA0_21]; exact ⟨hP, hD⟩
    clear eA0_21 hP hD
    refine lv_aload_n hx hb dX10_laysSteps_15 rfl (lv_at hl 0 rfl) ?_
    refine va_get (D := G.1) (ci := 10) (v := .ref (a0 47)) (C := RX10) (T := TX10) (N := 52) hx hb hts inlX10 hown hK hPD.1 0 rfl rfl 47 (by decide) (hts _ gw_784) (fun _ h9 => h9) rfl dX10_laysSteps_16 ?_
    refine lv_iload_n hx hb dX10_laysSteps_19 rfl (lv_at hl 2 rfl) ?_
    refine lv_iconst (v := 0) hx hb dX10_laysSteps_20 (by decide) ?_
    obtain ⟨hi_22, h⟩ := ob h
    refine va_iast hx hb hK hPD.1 hPD.2 hS 30 1 rfl rfl hi_22 dX10_laysSteps_21 (fun H locs hP hD hS => ?_)
    obtain ⟨A0_23, eA0_23, h⟩ := lvl h
    have hPD : WD G DA (wX10 G h0 a0 f0 A0_23) H := by rw [eA0_23]; exact ⟨hP, hD⟩
    clear eA0_23 hP hD
    refine lv_iinc (v := l2 + 1) (lv' := [(2, .int (l2 + 1)), (0, .ref h0), (1, .int p1)]) hx hb dX10_laysSteps_22 hl (k := 2) rfl rfl (by decide) rfl (fun ls hl => ?_)
    refine lv_goto (tgt := 2) hx hb dX10_laysSteps_25 (by decide) ?_
    exact hk2 A0_23 (l2 + 1) h _ _ _ hPD hS (lv_sub hl [1, 2, 0] rfl)
set_option maxRecDepth 100000 in
set_option maxHeartbeats 4000000 in
theorem ww_f10_laysSteps_l2  (C0 : Cx cX10_laysSteps 6 none RX10 p s m args meth c G DA) {h0 : Nat} {a0 : Nat → Nat} {f0 : Nat → Int32} {p1 : Int32}   {res : (Nat → Nat → Int32)}  : ∀ (n : Nat) (A0 : Nat → Nat → Int32) (l2 : Int32), f10_laysSteps_l2 f0 p1  n A0 l2 = some res → ∀ (H : Heap) (locs : List Loc) (ls : Array Slot), WD G DA (wX10 G h0 a0 f0 A0) H → va_S DA s.heap H locs → lv_has ls 6 [(0, .ref h0), (1, .int p1), (2, .int l2)] → W p l e rmX10_laysSteps s m args below meth c H locs 0 0 (MQ below (QV G DA (wX10 G h0 a0 f0 res)) args s 0 0 DA) (F0 m 2 ls []) := by
  intro n
  induction n with
  | zero => intro A0 l2 h; cases h
  | succ n ih => intro A0 l2 h; exact ww_f10_laysSteps_b2 C0  ih A0 l2 h
set_option maxRecDepth 100000 in
set_option maxHeartbeats 4000000 in
theorem kt_X10_laysSteps (l : Launch) (G : Gp) (h0 : Nat) (a0 : Nat → Nat) (f0 : Nat → Int32) (A0 : Nat → Nat → Int32) (p1 : Int32) : ∀ {r : (Nat → Nat → Int32)}, f10_laysSteps f0 A0 p1 = some r → CtrV l yX10_laysSteps cX10_laysSteps 6 none rmX10_laysSteps G [.ref h0, .int p1] (wX10 G h0 a0 f0 A0) (wX10 G h0 a0 f0 r) := by
  intro res h
  refine ctrV_of (cc := cX10_laysSteps) (maxL := 6) (ret := none) (by decide +kernel) rfl (Nat.le_of_ble_eq_true rfl) (fun p e s m below meth c DA C0 hP hD ls hl => ?_)
  have hPD : WD G DA (wX10 G h0 a0 f0 A0) s.heap := ⟨hP, hD⟩
  have hS : va_S DA s.heap s.heap [] := va_S.rf
  have hl : lv_has ls 6 [(0, .ref h0), (1, .int p1)] := hl
  obtain ⟨hx, hb, hml, hown, hts⟩ := C0.1
  have hK := C0.2.2.2.1
  unfold f10_laysSteps at h
  refine lv_iconst (v := 0) hx hb dX10_laysSteps_0 (by decide) ?_
  refine lv_istore_n (lv' := [(2, .int 0), (0, .ref h0), (1, .int p1)]) hx hb dX10_laysSteps_1 rfl hl (by decide) rfl (fun ls hl => ?_)
  exact ww_f10_laysSteps_l2 C0 NF A0 0 h _ _ _ hPD hS (lv_sub hl [1, 2, 0] rfl)
abbrev rmX10_isBridge : Room := { frames := 2, cells := 0, slots := 0, locals := 46 }
set_option maxRecDepth 100000 in
set_option maxHeartbeats 4000000 in
theorem kt_X10_isBridge (l : Launch) (G : Gp) (h0 : Nat) (a0 : Nat → Nat) (f0 : Nat → Int32) (A0 : Nat → Nat → Int32) (p1 : Int32) (p2 : Int32) : ∀ {r : Int32 × (Nat → Nat → Int32)}, f10_isBridge f0 A0 p1 p2 = some r → CtrI l yX10_isBridge cX10_isBridge 3 (some .boolean) rmX10_isBridge G [.ref h0, .int p1, .int p2] (wX10 G h0 a0 f0 A0) r.1 (wX10 G h0 a0 f0 r.2) := by
  intro res h
  refine ctrI_of (cc := cX10_isBridge) (maxL := 3) (ret := (some .boolean)) (by decide +kernel) rfl (Nat.le_of_ble_eq_true rfl) (fun p e s m below meth c DA C0 hP hD ls hl => ?_)
  have hPD : WD G DA (wX10 G h0 a0 f0 A0) s.heap := ⟨hP, hD⟩
  have hS : va_S DA s.heap s.heap [] := va_S.rf
  have hl : lv_has ls 3 [(0, .ref h0), (1, .int p1), (2, .int p2)] := hl
  obtain ⟨hx, hb, hml, hown, hts⟩ := C0.1
  have hK := C0.2.2.2.1
  unfold f10_isBridge at h
  refine lv_aload_n hx hb dX10_isBridge_0 rfl (lv_at hl 0 rfl) ?_
  refine va_get (D := G.1) (ci := 10) (v := .ref (a0 3)) (C := RX10) (T := TX10) (N := 52) hx hb hts inlX10 hown hK hPD.1 0 rfl rfl 3 (by decide) (hts _ gw_663) (fun _ h9 => h9) rfl dX10_isBridge_1 ?_
  refine lv_iload_n hx hb dX10_isBridge_4 rfl (lv_at hl 1 rfl) ?_
  refine lv_aload_n hx hb dX10_isBridge_5 rfl (lv_at hl 0 rfl) ?_
  refine va_get (D := G.1) (ci := 10) (v := .ref (a0 3)) (C := RX10) (T := TX10) (N := 52) hx hb hts inlX10 hown hK hPD.1 0 rfl rfl 3 (by decide) (hts _ gw_663) (fun _ h9 => h9) rfl dX10_isBridge_6 ?_
  refine lv_iload_n hx hb dX10_isBridge_9 rfl (lv_at hl 1 rfl) ?_
  obtain ⟨hi_1, h⟩ := ob h
  refine va_iald hx hb hK hPD.1 4 1 rfl rfl hi_1 dX10_isBridge_10 ?_
  refine lv_iconst (v := 1) hx hb dX10_isBridge_11 (by decide) ?_
  refine lv_iload_n hx hb dX10_isBridge_12 rfl (lv_at hl 2 rfl) ?_
  refine lv_ishl hx hb dX10_isBridge_13 ?_
  refine lv_iconst (v := (-1)) hx hb dX10_isBridge_14 (by decide) ?_
  refine lv_ixor hx hb dX10_isBridge_15 ?_
  refine lv_iand hx hb dX10_isBridge_16 ?_
  obtain ⟨hi_2, h⟩ := ob h
  refine va_iast hx hb hK hPD.1 hPD.2 hS 4 1 rfl rfl hi_2 dX10_isBridge_17 (fun H locs hP hD hS => ?_)
  obtain ⟨A0_3, eA0_3, h⟩ := lvl h
  have hPD : WD G DA (wX10 G h0 a0 f0 A0_3) H := by rw [eA0_3]; exact ⟨hP, hD⟩
  clear eA0_3 hP hD
  refine lv_aload_n hx hb dX10_isBridge_18 rfl (lv_at hl 0 rfl) ?_
  refine va_get (D := G.1) (ci := 10) (v := .ref (a0 3)) (C := RX10) (T := TX10) (N := 52) hx hb hts inlX10 hown hK hPD.1 0 rfl rfl 3 (by decide) (hts _ gw_663) (fun _ h9 => h9) rfl dX10_isBridge_19 ?_
  refine lv_iload_n hx hb dX10_isBridge_22 rfl (lv_at hl 2 rfl) ?_
  refine lv_aload_n hx hb dX10_isBridge_23 rfl (lv_at hl 0 rfl) ?_
  refine va_get (D := G.1) (ci := 10) (v := .ref (a0 3)) (C := RX10) (T := TX10) (N := 52) hx hb hts inlX10 hown hK hPD.1 0 rfl rfl 3 (by decide) (hts _ gw_663) (fun _ h9 => h9) rfl dX10_isBridge_24 ?_
  refine lv_iload_n hx hb dX10_isBridge_27 rfl (lv_at hl 2 rfl) ?_
  obtain ⟨hi_4, h⟩ := ob h
  refine va_iald hx hb hK hPD.1 4 1 rfl rfl hi_4 dX10_isBridge_28 ?_
  refine lv_iconst (v := 1) hx hb dX10_isBridge_29 (by decide) ?_
  refine lv_iload_n hx hb dX10_isBridge_30 rfl (lv_at hl 1 rfl) ?_
  refine lv_ishl hx hb dX10_isBridge_31 ?_
  refine lv_iconst (v := (-1)) hx hb dX10_isBridge_32 (by decide) ?_
  refine lv_ixor hx hb dX10_isBridge_33 ?_
  refine lv_iand hx hb dX10_isBridge_34 ?_
  obtain ⟨hi_5, h⟩ := ob h
  refine va_iast hx hb hK hPD.1 hPD.2 hS 4 1 rfl rfl hi_5 dX10_isBridge_35 (fun H locs hP hD hS => ?_)
  obtain ⟨A0_6, eA0_6, h⟩ := lvl h
  have hPD : WD G DA (wX10 G h0 a0 f0 A0_6) H := by rw [eA0_6]; exact ⟨hP, hD⟩
  clear eA0_6 hP hD
  refine lv_aload_n hx hb dX10_isBridge_36 rfl (lv_at hl 0 rfl) ?_
  refine lv_iload_n hx hb dX10_isBridge_37 rfl (lv_at hl 1 rfl) ?_
  obtain ⟨q_7, hq_7, h⟩ := ob2 h
  refine kVV (As := [.int p1]) (rest := []) C0 (kt_X10_laysSteps l G h0 a0 f0 A0_6 p1 hq_7) gi_V_X10_344_X10_laysSteps (n := 1) rfl (by decide +kernel) rfl ⟨rfl, rfl, Nat.le_of_ble_eq_true rfl, Nat.le_of_ble_eq_true rfl⟩ hPD hS 0 10 rfl rfl rfl [0, 1, 2, 3, 4, 5, 6, 7, 8, 9, 10, 11, 12, 13, 14, 15, 16, 17, 18, 19, 20, 21, 22, 23, 24, 25, 26, 27, 28, 29, 30, 31, 32, 33] [] [0, 1, 2, 3, 4, 5, 6, 7, 8, 9, 10, 11, 12, 13, 14, 15, 16, 17, 18, 19, 20, 21, 22, 23, 24, 25, 26, 27, 28, 29, 30, 31, 32, 33] (wr := ([] : va_W)) (wN := (wX10 G h0 a0 f0 q_7)) rfl rfl rfl rfl rfl hl.1 (Nat.le_of_ble_eq_true rfl) dX10_isBridge_38 (fun H locs hPD hS => ?_)
  refine lv_aload_n hx hb dX10_isBridge_41 rfl (lv_at hl 0 rfl) ?_
  refine va_get (D := G.1) (ci := 10) (v := .ref (a0 3)) (C := RX10) (T := TX10) (N := 52) hx hb hts inlX10 hown hK hPD.1 0 rfl rfl 3 (by decide) (hts _ gw_663) (fun _ h9 => h9) rfl dX10_isBridge_42 ?_
  refine lv_iload_n hx hb dX10_isBridge_45 rfl (lv_at hl 1 rfl) ?_
  refine lv_aload_n hx hb dX10_isBridge_46 rfl (lv_at hl 0 rfl) ?_
  refine va_get (D := G.1) (ci := 10) (v := .ref (a0 3)) (C := RX10) (T := TX10) (N := 52) hx hb hts inlX10 hown hK hPD.1 0 rfl rfl 3 (by decide) (hts _ gw_663) (fun _ h9 => h9) rfl dX10_isBridge_47 ?_
  refine lv_iload_n hx hb dX10_isBridge_50 rfl (lv_at hl 1 rfl) ?_
  obtain ⟨hi_8, h⟩ := ob h
  refine va_iald hx hb hK hPD.1 4 1 rfl rfl hi_8 dX10_isBridge_51 ?_
  refine lv_iconst (v := 1) hx hb dX10_isBridge_52 (by decide) ?_
  refine lv_iload_n hx hb dX10_isBridge_53 rfl (lv_at hl 2 rfl) ?_
  refine lv_ishl hx hb dX10_isBridge_54 ?_
  refine lv_ior hx hb dX10_isBridge_55 ?_
  obtain ⟨hi_9, h⟩ := ob h
  refine va_iast hx hb hK hPD.1 hPD.2 hS 4 1 rfl rfl hi_9 dX10_isBridge_56 (fun H locs hP hD hS => ?_)
  obtain ⟨A0_10, eA0_10, h⟩ := lvl h
  have hPD : WD G DA (wX10 G h0 a0 f0 A0_10) H := by rw [eA0_10]; exact ⟨hP, hD⟩
  clear eA0_10 hP hD
  refine lv_aload_n hx hb dX10_isBridge_57 rfl (lv_at hl 0 rfl) ?_
  refine va_get (D := G.1) (ci := 10) (v := .ref (a0 3)) (C := RX10) (T := TX10) (N := 52) hx hb hts inlX10 hown hK hPD.1 0 rfl rfl 3 (by decide) (hts _ gw_663) (fun _ h9 => h9) rfl dX10_isBridge_58 ?_
  refine lv_iload_n hx hb dX10_isBridge_61 rfl (lv_at hl 2 rfl) ?_
  refine lv_aload_n hx hb dX10_isBridge_62 rfl (lv_at hl 0 rfl) ?_
  refine va_get (D := G.1) (ci := 10) (v := .ref (a0 3)) (C := RX10) (T := TX10) (N := 52) hx hb hts inlX10 hown hK hPD.1 0 rfl rfl 3 (by decide) (hts _ gw_663) (fun _ h9 => h9) rfl dX10_isBridge_63 ?_
  refine lv_iload_n hx hb dX10_isBridge_66 rfl (lv_at hl 2 rfl) ?_
  obtain ⟨hi_11, h⟩ := ob h
  refine va_iald hx hb hK hPD.1 4 1 rfl rfl hi_11 dX10_isBridge_67 ?_
  refine lv_iconst (v := 1) hx hb dX10_isBridge_68 (by decide) ?_
  refine lv_iload_n hx hb dX10_isBridge_69 rfl (lv_at hl 1 rfl) ?_
  refine lv_ishl hx hb dX10_isBridge_70 ?_
  refine lv_ior hx hb dX10_isBridge_71 ?_
  obtain ⟨hi_12, h⟩ := ob h
  refine va_iast hx hb hK hPD.1 hPD.2 hS 4 1 rfl rfl hi_12 dX10_isBridge_72 (fun H locs hP hD hS => ?_)
  obtain ⟨A0_13, eA0_13, h⟩ := lvl h
  have hPD : WD G DA (wX10 G h0 a0 f0 A0_13) H := by rw [eA0_13]; exact ⟨hP, hD⟩
  clear eA0_13 hP hD
  refine lv_aload_n hx hb dX10_isBridge_73 rfl (lv_at hl 0 rfl) ?_
  refine va_get (D := G.1) (ci := 10) (v := .ref (a0 46)) (C := RX10) (T := TX10) (N := 52) hx hb hts inlX10 hown hK hPD.1 0 rfl rfl 46 (by decide) (hts _ gw_783) (fun _ h9 => h9) rfl dX10_isBridge_74 ?_
  refine lv_iload_n hx hb dX10_isBridge_77 rfl (lv_at hl 2 rfl) ?_
  obtain ⟨hi_14, h⟩ := ob h
  refine va_iald hx hb hK hPD.1 29 1 rfl rfl hi_14 dX10_isBridge_78 ?_
  refine lv_iconst (v := (-1)) hx hb dX10_isBridge_79 (by decide) ?_
  refine lv_icmp_ne (tgt := 87) hx hb dX10_isBridge_80 (by decide) (fun cc1 => ?_) (fun cc1 => ?_)
  · have h := (if_neg cc1).symm.trans h
    refine lv_iconst (v := 0) hx hb dX10_isBridge_87 (by decide) ?_
    obtain rfl := Option.some.inj h
    exact eZ C0 hPD.1 hPD.2 hS rfl rfl dX10_isBridge_88
  · have h := (if_pos cc1).symm.trans h
    refine lv_iconst (v := 1) hx hb dX10_isBridge_83 (by decide) ?_
    refine lv_goto (tgt := 88) hx hb dX10_isBridge_84 (by decide) ?_
    obtain rfl := Option.some.inj h
    exact eZ C0 hPD.1 hPD.2 hS rfl rfl dX10_isBridge_88
abbrev rmX10_lanes : Room := { frames := 3, cells := 0, slots := 0, locals := 68 }
set_option maxRecDepth 100000 in
set_option maxHeartbeats 4000000 in
theorem ww_f10_lanes_b36  (C0 : Cx cX10_lanes 8 (some .int) RX10 p s m args meth c G DA) {h0 : Nat} {a0 : Nat → Nat} {f0 : Nat → Int32} {p1 : Int32}  {k27 : (Nat → Nat → Int32) → Int32 → Int32 → Int32 → Int32 → Int32 → Option (Int32 × (Nat → Nat → Int32))} {k36 : (Nat → Nat → Int32) → Int32 → Int32 → Int32 → Int32 → Int32 → Int32 → Option (Int32 × (Nat → Nat → Int32))} {res : Int32 × (Nat → Nat → Int32)} (hk27 : ∀ (A0 : Nat → Nat → Int32) (l2 : Int32) (l3 : Int32) (l4 : Int32) (l5 : Int32) (l6 : Int32), k27 A0 l2 l3 l4 l5 l6 = some res → ∀ (H : Heap) (locs : List Loc) (ls : Array Slot), WD G DA (wX10 G h0 a0 f0 A0) H → va_S DA s.heap H locs → lv_has ls 8 [(0, .ref h0), (1, .int p1), (2, .int l2), (3, .int l3), (4, .int l4), (5, .int l5), (6, .int l6)] → W p l e rmX10_lanes s m args below meth c H locs 0 0 (MQ below (QI G DA res.1 (wX10 G h0 a0 f0 res.2)) args s 0 0 DA) (F0 m 27 ls [])) (hk36 : ∀ (A0 : Nat → Nat → Int32) (l2 : Int32) (l3 : Int32) (l4 : Int32) (l5 : Int32) (l6 : Int32) (l7 : Int32), k36 A0 l2 l3 l4 l5 l6 l7 = some res → ∀ (H : Heap) (locs : List Loc) (ls : Array Slot), WD G DA (wX10 G h0 a0 f0 A0) H → va_S DA s.heap H locs → lv_has ls 8 [(0, .ref h0), (1, .int p1), (2, .int l2), (3, .int l3), (4, .int l4), (5, .int l5), (6, .int l6), (7, .int l7)] → W p l e rmX10_lanes s m args below meth c H locs 0 0 (MQ below (QI G DA res.1 (wX10 G h0 a0 f0 res.2)) args s 0 0 DA) (F0 m 36 ls [])) : ∀ (A0 : Nat → Nat → Int32) (l2 : Int32) (l3 : Int32) (l4 : Int32) (l5 : Int32) (l6 : Int32) (l7 : Int32), f10_lanes_b36 f0 p1 k27 k36 A0 l2 l3 l4 l5 l6 l7 = some res → ∀ (H : Heap) (locs : List Loc) (ls : Array Slot), WD G DA (wX10 G h0 a0 f0 A0) H → va_S DA s.heap H locs → lv_has ls 8 [(0, .ref h0), (1, .int p1), (2, .int l2), (3, .int l3), (4, .int l4), (5, .int l5), (6, .int l6), (7, .int l7)] → W p l e rmX10_lanes s m args below meth c H locs 0 0 (MQ below (QI G DA res.1 (wX10 G h0 a0 f0 res.2)) args s 0 0 DA) (F0 m 36 ls []) := by
  obtain ⟨hx, hb, hml, hown, hts⟩ := C0.1
  have hK := C0.2.2.2.1
  intro A0 l2 l3 l4 l5 l6 l7 h _ _ _ hPD hS hl
  unfold f10_lanes_b36 at h
  refine lv_iload hx hb dX10_lanes_36 (lv_at hl 7 rfl) ?_
  refine lv_iload hx hb dX10_lanes_38 (lv_at hl 6 rfl) ?_
  refine lv_icmp_le (tgt := 97) hx hb dX10_lanes_40 (by decide) (fun cc1 => ?_) (fun cc1 => ?_)
  · have h := (if_pos cc1).symm.trans h
    refine lv_iinc (v := l6 + (-1)) (lv' := [(6, .int (l6 + (-1))), (0, .ref h0), (1, .int p1), (2, .int l2), (3, .int l3), (4, .int l4), (5, .int l5), (7, .int l7)]) hx hb dX10_lanes_97 hl (k := 6) rfl rfl (by decide) rfl (fun ls hl => ?_)
    refine lv_goto (tgt := 27) hx hb dX10_lanes_100 (by decide) ?_
    exact hk27 A0 l2 l3 l4 l5 (l6 + (-1)) h _ _ _ hPD hS (lv_sub hl [1, 2, 3, 4, 5, 6, 0] rfl)
  · have h := (if_neg cc1).symm.trans h
    refine lv_aload_n hx hb dX10_lanes_43 rfl (lv_at hl 0 rfl) ?_
    refine va_get (D := G.1) (ci := 10) (v := .ref (a0 3)) (C := RX10) (T := TX10) (N := 52) hx hb hts inlX10 hown hK hPD.1 0 rfl rfl 3 (by decide) (hts _ gw_663) (fun _ h9 => h9) rfl dX10_lanes_44 ?_
    refine lv_iload hx hb dX10_lanes_47 (lv_at hl 6 rfl) ?_
    obtain ⟨hi_1, h⟩ := ob h
    refine va_iald hx hb hK hPD.1 4 1 rfl rfl hi_1 dX10_lanes_49 ?_
    refine lv_iload hx hb dX10_lanes_50 (lv_at hl 7 rfl) ?_
    refine kSI (As := [.int (gx (A0 3) l6), .int l7]) (rest := []) C0 (kt_X10_has l G  (gx (A0 3) l6) l7) gi_S_X10_120_X10_has (n := 2) rfl (by decide +kernel) ⟨rfl, rfl, Nat.le_of_ble_eq_true rfl, Nat.le_of_ble_eq_true rfl⟩ hPD hS [] [0, 1, 2, 3, 4, 5, 6, 7, 8, 9, 10, 11, 12, 13, 14, 15, 16, 17, 18, 19, 20, 21, 22, 23, 24, 25, 26, 27, 28, 29, 30, 31, 32, 33] [0, 1, 2, 3, 4, 5, 6, 7, 8, 9, 10, 11, 12, 13, 14, 15, 16, 17, 18, 19, 20, 21, 22, 23, 24, 25, 26, 27, 28, 29, 30, 31, 32, 33] (wr := (wX10 G h0 a0 f0 A0)) (wN := (wX10 G h0 a0 f0 A0)) rfl rfl rfl rfl rfl hl.1 (Nat.le_of_ble_eq_true rfl) dX10_lanes_52 (fun H locs hPD hS => ?_)
    refine lv_if_ne (tgt := 61) hx hb dX10_lanes_55 (by decide) (fun cc1 => ?_) (fun cc1 => ?_)
    · have h := (if_neg cc1).symm.trans h
      refine lv_iload_n hx hb dX10_lanes_61 rfl (lv_at hl 2 rfl) ?_
      refine lv_iconst (v := 1) hx hb dX10_lanes_62 (by decide) ?_
      refine lv_iadd hx hb dX10_lanes_63 ?_
      refine lv_istore_n (lv' := [(2, .int (l2 + 1)), (0, .ref h0), (1, .int p1), (3, .int l3), (4, .int l4), (5, .int l5), (6, .int l6), (7, .int l7)]) hx hb dX10_lanes_64 rfl hl (by decide) rfl (fun ls hl => ?_)
      refine lv_aload_n hx hb dX10_lanes_65 rfl (lv_at hl 1 rfl) ?_
      refine lv_iload hx hb dX10_lanes_66 (lv_at hl 6 rfl) ?_
      refine lv_iload hx hb dX10_lanes_68 (lv_at hl 7 rfl) ?_
      obtain ⟨q_2, hq_2, h⟩ := ob2 h
      refine kVI (As := [.int l6, .int l7]) (rest := []) C0 (kt_X10_isBridge l G h0 a0 f0 A0 l6 l7 hq_2) gi_V_X10_347_X10_isBridge (n := 2) rfl (by decide +kernel) rfl ⟨rfl, rfl, Nat.le_of_ble_eq_true rfl, Nat.le_of_ble_eq_true rfl⟩ hPD hS 0 10 rfl rfl rfl [0, 1, 2, 3, 4, 5, 6, 7, 8, 9, 10, 11, 12, 13, 14, 15, 16, 17, 18, 19, 20, 21, 22, 23, 24, 25, 26, 27, 28, 29, 30, 31, 32, 33] [] [0, 1, 2, 3, 4, 5, 6, 7, 8, 9, 10, 11, 12, 13, 14, 15, 16, 17, 18, 19, 20, 21, 22, 23, 24, 25, 26, 27, 28, 29, 30, 31, 32, 33] (wr := ([] : va_W)) (wN := (wX10 G h0 a0 f0 q_2.2)) rfl rfl rfl rfl rfl hl.1 (Nat.le_of_ble_eq_true rfl) dX10_lanes_70 (fun H locs hPD hS => ?_)
      refine lv_if_ne (tgt := 79) hx hb dX10_lanes_73 (by decide) (fun cc1 => ?_) (fun cc1 => ?_)
      · have h := (if_neg cc1).symm.trans h
        refine lv_iload_n hx hb dX10_lanes_79 rfl (lv_at hl 3 rfl) ?_
        refine lv_iconst (v := 1) hx hb dX10_lanes_80 (by decide) ?_
        refine lv_iadd hx hb dX10_lanes_81 ?_
        refine lv_istore_n (lv' := [(3, .int (l3 + 1)), (2, .int (l2 + 1)), (0, .ref h0), (1, .int p1), (4, .int l4), (5, .int l5), (6, .int l6), (7, .int l7)]) hx hb dX10_lanes_82 rfl hl (by decide) rfl (fun ls hl => ?_)
        refine lv_iload hx hb dX10_lanes_83 (lv_at hl 6 rfl) ?_
        refine lv_istore (lv' := [(4, .int l6), (3, .int (l3 + 1)), (2, .int (l2 + 1)), (0, .ref h0), (1, .int p1), (5, .int l5), (6, .int l6), (7, .int l7)]) hx hb dX10_lanes_85 hl (by decide) rfl (fun ls hl => ?_)
        refine lv_iload hx hb dX10_lanes_87 (lv_at hl 7 rfl) ?_
        refine lv_istore (lv' := [(5, .int l7), (4, .int l6), (3, .int (l3 + 1)), (2, .int (l2 + 1)), (0, .ref h0), (1, .int p1), (6, .int l6), (7, .int l7)]) hx hb dX10_lanes_89 hl (by decide) rfl (fun ls hl => ?_)
        refine lv_iinc (v := l7 + (-1)) (lv' := [(7, .int (l7 + (-1))), (5, .int l7), (4, .int l6), (3, .int (l3 + 1)), (2, .int (l2 + 1)), (0, .ref h0), (1, .int p1), (6, .int l6)]) hx hb dX10_lanes_91 hl (k := 7) rfl rfl (by decide) rfl (fun ls hl => ?_)
        refine lv_goto (tgt := 36) hx hb dX10_lanes_94 (by decide) ?_
        exact hk36 q_2.2 (l2 + 1) (l3 + 1) l6 l7 l6 (l7 + (-1)) h _ _ _ hPD hS (lv_sub hl [5, 6, 4, 3, 2, 1, 7, 0] rfl)
      · have h := (if_pos cc1).symm.trans h
        refine lv_goto (tgt := 91) hx hb dX10_lanes_76 (by decide) ?_
        refine lv_iinc (v := l7 + (-1)) (lv' := [(7, .int (l7 + (-1))), (2, .int (l2 + 1)), (0, .ref h0), (1, .int p1), (3, .int l3), (4, .int l4), (5, .int l5), (6, .int l6)]) hx hb dX10_lanes_91 hl (k := 7) rfl rfl (by decide) rfl (fun ls hl => ?_)
        refine lv_goto (tgt := 36) hx hb dX10_lanes_94 (by decide) ?_
        exact hk36 q_2.2 (l2 + 1) l3 l4 l5 l6 (l7 + (-1)) h _ _ _ hPD hS (lv_sub hl [2, 3, 1, 4, 5, 6, 7, 0] rfl)
    · have h := (if_pos cc1).symm.trans h
      refine lv_goto (tgt := 91) hx hb dX10_lanes_58 (by decide) ?_
      refine lv_iinc (v := l7 + (-1)) (lv' := [(7, .int (l7 + (-1))), (0, .ref h0), (1, .int p1), (2, .int l2), (3, .int l3), (4, .int l4), (5, .int l5), (6, .int l6)]) hx hb dX10_lanes_91 hl (k := 7) rfl rfl (by decide) rfl (fun ls hl => ?_)
      refine lv_goto (tgt := 36) hx hb dX10_lanes_94 (by decide) ?_
      exact hk36 A0 l2 l3 l4 l5 l6 (l7 + (-1)) h _ _ _ hPD hS (lv_sub hl [1, 2, 3, 4, 5, 6, 7, 0] rfl)
set_option maxRecDepth 100000 in
set_option maxHeartbeats 4000000 in
theorem ww_f10_lanes_l36  (C0 : Cx cX10_lanes 8 (some .int) RX10 p s m args meth c G DA) {h0 : Nat} {a0 : Nat → Nat} {f0 : Nat → Int32} {p1 : Int32}  {k27 : (Nat → Nat → Int32) → Int32 → Int32 → Int32 → Int32 → Int32 → Option (Int32 × (Nat → Nat → Int32))} {res : Int32 × (Nat → Nat → Int32)} (hk27 : ∀ (A0 : Nat → Nat → Int32) (l2 : Int32) (l3 : Int32) (l4 : Int32) (l5 : Int32) (l6 : Int32), k27 A0 l2 l3 l4 l5 l6 = some res → ∀ (H : Heap) (locs : List Loc) (ls : Array Slot), WD G DA (wX10 G h0 a0 f0 A0) H → va_S DA s.heap H locs → lv_has ls 8 [(0, .ref h0), (1, .int p1), (2, .int l2), (3, .int l3), (4, .int l4), (5, .int l5), (6, .int l6)] → W p l e rmX10_lanes s m args below meth c H locs 0 0 (MQ below (QI G DA res.1 (wX10 G h0 a0 f0 res.2)) args s 0 0 DA) (F0 m 27 ls [])) : ∀ (n : Nat) (A0 : Nat → Nat → Int32) (l2 : Int32) (l3 : Int32) (l4 : Int32) (l5 : Int32) (l6 : Int32) (l7 : Int32), f10_lanes_l36 f0 p1 k27 n A0 l2 l3 l4 l5 l6 l7 = some res → ∀ (H : Heap) (locs : List Loc) (ls : Array Slot), WD G DA (wX10 G h0 a0 f0 A0) H → va_S DA s.heap H locs → lv_has ls 8 [(0, .ref h0), (1, .int p1), (2, .int l2), (3, .int l3), (4, .int l4), (5, .int l5), (6, .int l6), (7, .int l7)] → W p l e rmX10_lanes s m args below meth c H locs 0 0 (MQ below (QI G DA res.1 (wX10 G h0 a0 f0 res.2)) args s 0 0 DA) (F0 m 36 ls []) := by
  intro n
  induction n with
  | zero => intro A0 l2 l3 l4 l5 l6 l7 h; cases h
  | succ n ih => intro A0 l2 l3 l4 l5 l6 l7 h; exact ww_f10_lanes_b36 C0 hk27 ih A0 l2 l3 l4 l5 l6 l7 h
set_option maxRecDepth 100000 in
set_option maxHeartbeats 4000000 in
theorem ww_f10_lanes_b27  (C0 : Cx cX10_lanes 8 (some .int) RX10 p s m args meth c G DA) {h0 : Nat} {a0 : Nat → Nat} {f0 : Nat → Int32} {p1 : Int32}  {k27 : (Nat → Nat → Int32) → Int32 → Int32 → Int32 → Int32 → Int32 → Option (Int32 × (Nat → Nat → Int32))} {res : Int32 × (Nat → Nat → Int32)}  (hk27 : ∀ (A0 : Nat → Nat → Int32) (l2 : Int32) (l3 : Int32) (l4 : Int32) (l5 : Int32) (l6 : Int32), k27 A0 l2 l3 l4 l5 l6 = some res → ∀ (H : Heap) (locs : List Loc) (ls : Array Slot), WD G DA (wX10 G h0 a0 f0 A0) H → va_S DA s.heap H locs → lv_has ls 8 [(0, .ref h0), (1, .int p1), (2, .int l2), (3, .int l3), (4, .int l4), (5, .int l5), (6, .int l6)] → W p l e rmX10_lanes s m args below meth c H locs 0 0 (MQ below (QI G DA res.1 (wX10 G h0 a0 f0 res.2)) args s 0 0 DA) (F0 m 27 ls [])) : ∀ (A0 : Nat → Nat → Int32) (l2 : Int32) (l3 : Int32) (l4 : Int32) (l5 : Int32) (l6 : Int32), f10_lanes_b27 f0 p1  k27 A0 l2 l3 l4 l5 l6 = some res → ∀ (H : Heap) (locs : List Loc) (ls : Array Slot), WD G DA (wX10 G h0 a0 f0 A0) H → va_S DA s.heap H locs → lv_has ls 8 [(0, .ref h0), (1, .int p1), (2, .int l2), (3, .int l3), (4, .int l4), (5, .int l5), (6, .int l6)] → W p l e rmX10_lanes s m args below meth c H locs 0 0 (MQ below (QI G DA res.1 (wX10 G h0 a0 f0 res.2)) args s 0 0 DA) (F0 m 27 ls []) := by
  obtain ⟨hx, hb, hml, hown, hts⟩ := C0.1
  have hK := C0.2.2.2.1
  intro A0 l2 l3 l4 l5 l6 h _ _ _ hPD hS hl
  unfold f10_lanes_b27 at h
  refine lv_iload hx hb dX10_lanes_27 (lv_at hl 6 rfl) ?_
  refine lv_if_lt (tgt := 103) hx hb dX10_lanes_29 (by decide) (fun cc1 => ?_) (fun cc1 => ?_)
  · have h := (if_pos cc1).symm.trans h
    refine lv_iload_n hx hb dX10_lanes_103 rfl (lv_at hl 1 rfl) ?_
    refine lv_if_ne (tgt := 111) hx hb dX10_lanes_104 (by decide) (fun cc1 => ?_) (fun cc1 => ?_)
    · have h := (if_neg cc1).symm.trans h
      refine lv_iload_n hx hb dX10_lanes_111 rfl (lv_at hl 1 rfl) ?_
      refine lv_iconst (v := 1) hx hb dX10_lanes_112 (by decide) ?_
      refine lv_icmp_ne (tgt := 120) hx hb dX10_lanes_113 (by decide) (fun cc1 => ?_) (fun cc1 => ?_)
      · have h := (if_neg cc1).symm.trans h
        refine lv_iload_n hx hb dX10_lanes_120 rfl (lv_at hl 1 rfl) ?_
        refine lv_iconst (v := 2) hx hb dX10_lanes_121 (by decide) ?_
        refine lv_icmp_ne (tgt := 130) hx hb dX10_lanes_122 (by decide) (fun cc1 => ?_) (fun cc1 => ?_)
        · have h := (if_neg cc1).symm.trans h
          refine lv_iload hx hb dX10_lanes_130 (lv_at hl 5 rfl) ?_
          obtain rfl := Option.some.inj h
          exact eI C0 hPD.1 hPD.2 hS rfl dX10_lanes_132
        · have h := (if_pos cc1).symm.trans h
          refine lv_iload hx hb dX10_lanes_125 (lv_at hl 4 rfl) ?_
          refine lv_goto (tgt := 132) hx hb dX10_lanes_127 (by decide) ?_
          obtain rfl := Option.some.inj h
          exact eI C0 hPD.1 hPD.2 hS rfl dX10_lanes_132
      · have h := (if_pos cc1).symm.trans h
        refine lv_iload_n hx hb dX10_lanes_116 rfl (lv_at hl 3 rfl) ?_
        refine lv_goto (tgt := 132) hx hb dX10_lanes_117 (by decide) ?_
        obtain rfl := Option.some.inj h
        exact eI C0 hPD.1 hPD.2 hS rfl dX10_lanes_132
    · have h := (if_pos cc1).symm.trans h
      refine lv_iload_n hx hb dX10_lanes_107 rfl (lv_at hl 2 rfl) ?_
      refine lv_goto (tgt := 132) hx hb dX10_lanes_108 (by decide) ?_
      obtain rfl := Option.some.inj h
      exact eI C0 hPD.1 hPD.2 hS rfl dX10_lanes_132
  · have h := (if_neg cc1).symm.trans h
    refine lv_bipush (v := 15) hx hb dX10_lanes_32 (by decide) ?_
    refine lv_istore (lv' := [(7, .int 15), (0, .ref h0), (1, .int p1), (2, .int l2), (3, .int l3), (4, .int l4), (5, .int l5), (6, .int l6)]) hx hb dX10_lanes_34 hl (by decide) rfl (fun ls hl => ?_)
    exact ww_f10_lanes_l36 C0 hk27 NF A0 l2 l3 l4 l5 l6 15 h _ _ _ hPD hS (lv_sub hl [1, 2, 3, 4, 5, 6, 7, 0] rfl)
end WALK
