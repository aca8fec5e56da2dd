section WALK
variable {p : Program} {l : Launch} {e : Env} {s : State} {m : MethodId} {args : Array Value} {below : List Frame} {meth : Method} {c : Code} {G : Gp} {DA : Nat → Prop}
set_option maxRecDepth 100000 in
set_option maxHeartbeats 4000000 in
theorem ww_f10_margin_l6  (C0 : Cx cX10_margin 6 (some .int) RX10 p s m args meth c G DA) {h0 : Nat} {a0 : Nat → Nat} {f0 : Nat → Int32} {A0 : Nat → Nat → Int32} {p1 : Int32} {p2 : Int32} {p3 : Int32}   {res : Int32}  : ∀ (n : Nat) (l4 : Int32) (l5 : Int32), f10_margin_l6 f0 A0 p1 p2 p3  n l4 l5 = some res → ∀ (H : Heap) (locs : List Loc) (ls : Array Slot), WD G DA (wX10 G h0 a0 f0 A0) H → va_S DA s.heap H locs → lv_has ls 6 [(0, .ref h0), (1, .int p1), (2, .int p2), (3, .int p3), (4, .int l4), (5, .int l5)] → W p l e rmX10_margin s m args below meth c H locs 0 0 (MQ below (QI G DA res (wX10 G h0 a0 f0 A0)) args s 0 0 DA) (F0 m 6 ls []) := by
  intro n
  induction n with
  | zero => intro l4 l5 h; cases h
  | succ n ih => intro l4 l5 h; exact ww_f10_margin_b6 C0  ih l4 l5 h
set_option maxRecDepth 100000 in
set_option maxHeartbeats 4000000 in
theorem kt_X10_margin (l : Launch) (G : Gp) (h0 : Nat) (a0 : Nat → Nat) (f0 : Nat → Int32) (A0 : Nat → Nat → Int32) (p1 : Int32) (p2 : Int32) (p3 : Int32) : ∀ {r : Int32}, f10_margin f0 A0 p1 p2 p3 = some r → CtrI l yX10_margin cX10_margin 6 (some .int) rmX10_margin G [.ref h0, .int p1, .int p2, .int p3] (wX10 G h0 a0 f0 A0) r (wX10 G h0 a0 f0 A0) := by
  intro res h
  refine ctrI_of (cc := cX10_margin) (maxL := 6) (ret := (some .int)) (by decide +kernel) rfl (Nat.le_of_ble_eq_true rfl) (fun p e s m below meth c DA C0 hP hD ls hl => ?_)
  have hPD : WD G DA (wX10 G h0 a0 f0 A0) s.heap := ⟨hP, hD⟩
  have hS : va_S DA s.heap s.heap [] := va_S.rf
  have hl : lv_has ls 6 [(0, .ref h0), (1, .int p1), (2, .int p2), (3, .int p3)] := hl
  obtain ⟨hx, hb, hml, hown, hts⟩ := C0.1
  have hK := C0.2.2.2.1
  unfold f10_margin at h
  refine lv_iconst (v := 0) hx hb dX10_margin_0 (by decide) ?_
  refine lv_istore (lv' := [(4, .int 0), (0, .ref h0), (1, .int p1), (2, .int p2), (3, .int p3)]) hx hb dX10_margin_1 hl (by decide) rfl (fun ls hl => ?_)
  refine lv_iconst (v := 0) hx hb dX10_margin_3 (by decide) ?_
  refine lv_istore (lv' := [(5, .int 0), (4, .int 0), (0, .ref h0), (1, .int p1), (2, .int p2), (3, .int p3)]) hx hb dX10_margin_4 hl (by decide) rfl (fun ls hl => ?_)
  exact ww_f10_margin_l6 C0 NF 0 0 h _ _ _ hPD hS (lv_sub hl [2, 3, 4, 5, 1, 0] rfl)
abbrev rmX10_beatsAll : Room := { frames := 1, cells := 0, slots := 0, locals := 25 }
set_option maxRecDepth 100000 in
set_option maxHeartbeats 4000000 in
theorem ww_f10_beatsAll_b3  (C0 : Cx cX10_beatsAll 5 (some .boolean) RX10 p s m args meth c G DA) {h0 : Nat} {a0 : Nat → Nat} {f0 : Nat → Int32} {A0 : Nat → Nat → Int32} {p1 : Int32} {p2 : Int32} {p3 : Int32}  {k3 : Int32 → Option (Int32)} {res : Int32}  (hk3 : ∀ (l4 : Int32), k3 l4 = some res → ∀ (H : Heap) (locs : List Loc) (ls : Array Slot), WD G DA (wX10 G h0 a0 f0 A0) H → va_S DA s.heap H locs → lv_has ls 5 [(0, .ref h0), (1, .int p1), (2, .int p2), (3, .int p3), (4, .int l4)] → W p l e rmX10_beatsAll s m args below meth c H locs 0 0 (MQ below (QI G DA res (wX10 G h0 a0 f0 A0)) args s 0 0 DA) (F0 m 3 ls [])) : ∀ (l4 : Int32), f10_beatsAll_b3 f0 A0 p1 p2 p3  k3 l4 = some res → ∀ (H : Heap) (locs : List Loc) (ls : Array Slot), WD G DA (wX10 G h0 a0 f0 A0) H → va_S DA s.heap H locs → lv_has ls 5 [(0, .ref h0), (1, .int p1), (2, .int p2), (3, .int p3), (4, .int l4)] → W p l e rmX10_beatsAll s m args below meth c H locs 0 0 (MQ below (QI G DA res (wX10 G h0 a0 f0 A0)) args s 0 0 DA) (F0 m 3 ls []) := by
  obtain ⟨hx, hb, hml, hown, hts⟩ := C0.1
  have hK := C0.2.2.2.1
  intro l4 h _ _ _ hPD hS hl
  unfold f10_beatsAll_b3 at h
  refine lv_iload hx hb dX10_beatsAll_3 (lv_at hl 4 rfl) ?_
  refine lv_iload_n hx hb dX10_beatsAll_5 rfl (lv_at hl 2 rfl) ?_
  refine lv_icmp_ge (tgt := 34) hx hb dX10_beatsAll_6 (by decide) (fun cc1 => ?_) (fun cc1 => ?_)
  · have h := (if_pos cc1).symm.trans h
    refine lv_iconst (v := 1) hx hb dX10_beatsAll_34 (by decide) ?_
    obtain rfl := Option.some.inj h
    exact eZ C0 hPD.1 hPD.2 hS rfl rfl dX10_beatsAll_35
  · have h := (if_neg cc1).symm.trans h
    refine lv_iload hx hb dX10_beatsAll_9 (lv_at hl 4 rfl) ?_
    refine lv_iload_n hx hb dX10_beatsAll_11 rfl (lv_at hl 1 rfl) ?_
    refine lv_icmp_eq (tgt := 28) hx hb dX10_beatsAll_12 (by decide) (fun cc1 => ?_) (fun cc1 => ?_)
    · have h := (if_pos cc1).symm.trans h
      refine lv_iinc (v := l4 + 1) (lv' := [(4, .int (l4 + 1)), (0, .ref h0), (1, .int p1), (2, .int p2), (3, .int p3)]) hx hb dX10_beatsAll_28 hl (k := 4) rfl rfl (by decide) rfl (fun ls hl => ?_)
      refine lv_goto (tgt := 3) hx hb dX10_beatsAll_31 (by decide) ?_
      exact hk3 (l4 + 1) h _ _ _ hPD hS (lv_sub hl [1, 2, 3, 4, 0] rfl)
    · have h := (if_neg cc1).symm.trans h
      refine lv_aload_n hx hb dX10_beatsAll_15 rfl (lv_at hl 0 rfl) ?_
      refine lv_iload_n hx hb dX10_beatsAll_16 rfl (lv_at hl 1 rfl) ?_
      refine lv_iload hx hb dX10_beatsAll_17 (lv_at hl 4 rfl) ?_
      refine lv_iload_n hx hb dX10_beatsAll_19 rfl (lv_at hl 3 rfl) ?_
      obtain ⟨q_1, hq_1, h⟩ := ob2 h
      refine kVI (As := [.int p1, .int l4, .int p3]) (rest := []) C0 (kt_X10_margin l G h0 a0 f0 A0 p1 l4 p3 hq_1) gi_V_X10_366_X10_margin (n := 3) rfl (by decide +kernel) rfl ⟨rfl, rfl, Nat.le_of_ble_eq_true rfl, Nat.le_of_ble_eq_true rfl⟩ hPD hS 0 10 rfl rfl rfl [0, 1, 2, 3, 4, 5, 6, 7, 8, 9, 10, 11, 12, 13, 14, 15, 16, 17, 18, 19, 20, 21, 22, 23, 24, 25, 26, 27, 28, 29, 30, 31, 32, 33] [] [0, 1, 2, 3, 4, 5, 6, 7, 8, 9, 10, 11, 12, 13, 14, 15, 16, 17, 18, 19, 20, 21, 22, 23, 24, 25, 26, 27, 28, 29, 30, 31, 32, 33] (wr := ([] : va_W)) (wN := (wX10 G h0 a0 f0 A0)) rfl rfl rfl rfl rfl hl.1 (Nat.le_of_ble_eq_true rfl) dX10_beatsAll_20 (fun H locs hPD hS => ?_)
      refine lv_if_gt (tgt := 28) hx hb dX10_beatsAll_23 (by decide) (fun cc1 => ?_) (fun cc1 => ?_)
      · have h := (if_pos cc1).symm.trans h
        refine lv_iinc (v := l4 + 1) (lv' := [(4, .int (l4 + 1)), (0, .ref h0), (1, .int p1), (2, .int p2), (3, .int p3)]) hx hb dX10_beatsAll_28 hl (k := 4) rfl rfl (by decide) rfl (fun ls hl => ?_)
        refine lv_goto (tgt := 3) hx hb dX10_beatsAll_31 (by decide) ?_
        exact hk3 (l4 + 1) h _ _ _ hPD hS (lv_sub hl [1, 2, 3, 4, 0] rfl)
      · have h := (if_neg cc1).symm.trans h
        refine lv_iconst (v := 0) hx hb dX10_beatsAll_26 (by decide) ?_
        obtain rfl := Option.some.inj h
        exact eZ C0 hPD.1 hPD.2 hS rfl rfl dX10_beatsAll_27
set_option maxRecDepth 100000 in
set_option maxHeartbeats 4000000 in
theorem ww_f10_beatsAll_l3  (C0 : Cx cX10_beatsAll 5 (some .boolean) RX10 p s m args meth c G DA) {h0 : Nat} {a0 : Nat → Nat} {f0 : Nat → Int32} {A0 : Nat → Nat → Int32} {p1 : Int32} {p2 : Int32} {p3 : Int32}   {res : Int32}  : ∀ (n : Nat) (l4 : Int32), f10_beatsAll_l3 f0 A0 p1 p2 p3  n l4 = some res → ∀ (H : Heap) (locs : List Loc) (ls : Array Slot), WD G DA (wX10 G h0 a0 f0 A0) H → va_S DA s.heap H locs → lv_has ls 5 [(0, .ref h0), (1, .int p1), (2, .int p2), (3, .int p3), (4, .int l4)] → W p l e rmX10_beatsAll s m args below meth c H locs 0 0 (MQ below (QI G DA res (wX10 G h0 a0 f0 A0)) args s 0 0 DA) (F0 m 3 ls []) := by
  intro n
  induction n with
  | zero => intro l4 h; cases h
  | succ n ih => intro l4 h; exact ww_f10_beatsAll_b3 C0  ih l4 h
set_option maxRecDepth 100000 in
set_option maxHeartbeats 4000000 in
theorem kt_X10_beatsAll (l : Launch) (G : Gp) (h0 : Nat) (a0 : Nat → Nat) (f0 : Nat → Int32) (A0 : Nat → Nat → Int32) (p1 : Int32) (p2 : Int32) (p3 : Int32) : ∀ {r : Int32}, f10_beatsAll f0 A0 p1 p2 p3 = some r → CtrI l yX10_beatsAll cX10_beatsAll 5 (some .boolean) rmX10_beatsAll G [.ref h0, .int p1, .int p2, .int p3] (wX10 G h0 a0 f0 A0) r (wX10 G h0 a0 f0 A0) := by
  intro res h
  refine ctrI_of (cc := cX10_beatsAll) (maxL := 5) (ret := (some .boolean)) (by decide +kernel) rfl (Nat.le_of_ble_eq_true rfl) (fun p e s m below meth c DA C0 hP hD ls hl => ?_)
  have hPD : WD G DA (wX10 G h0 a0 f0 A0) s.heap := ⟨hP, hD⟩
  have hS : va_S DA s.heap s.heap [] := va_S.rf
  have hl : lv_has ls 5 [(0, .ref h0), (1, .int p1), (2, .int p2), (3, .int p3)] := hl
  obtain ⟨hx, hb, hml, hown, hts⟩ := C0.1
  have hK := C0.2.2.2.1
  unfold f10_beatsAll at h
  refine lv_iconst (v := 0) hx hb dX10_beatsAll_0 (by decide) ?_
  refine lv_istore (lv' := [(4, .int 0), (0, .ref h0), (1, .int p1), (2, .int p2), (3, .int p3)]) hx hb dX10_beatsAll_1 hl (by decide) rfl (fun ls hl => ?_)
  exact ww_f10_beatsAll_l3 C0 NF 0 h _ _ _ hPD hS (lv_sub hl [1, 2, 3, 4, 0] rfl)
abbrev rmX10_placesOf : Room := { frames := 0, cells := 0, slots := 0, locals := 0 }
set_option maxRecDepth 100000 in
set_option maxHeartbeats 4000000 in
theorem ww_f10_placesOf_b5  (C0 : Cx cX10_placesOf 5 (some .int) RX10 p s m args meth c G DA) {h0 : Nat} {a0 : Nat → Nat} {f0 : Nat → Int32} {A0 : Nat → Nat → Int32} {p1 : Int32} {p2 : Int32}  {k5 : Int32 → Int32 → Option (Int32)} {res : Int32}  (hk5 : ∀ (l3 : Int32) (l4 : Int32), k5 l3 l4 = some res → ∀ (H : Heap) (locs : List Loc) (ls : Array Slot), WD G DA (wX10 G h0 a0 f0 A0) H → va_S DA s.heap H locs → lv_has ls 5 [(0, .ref h0), (1, .int p1), (2, .int p2), (3, .int l3), (4, .int l4)] → W p l e rmX10_placesOf s m args below meth c H locs 0 0 (MQ below (QI G DA res (wX10 G h0 a0 f0 A0)) args s 0 0 DA) (F0 m 5 ls [])) : ∀ (l3 : Int32) (l4 : Int32), f10_placesOf_b5 f0 A0 p1 p2  k5 l3 l4 = some res → ∀ (H : Heap) (locs : List Loc) (ls : Array Slot), WD G DA (wX10 G h0 a0 f0 A0) H → va_S DA s.heap H locs → lv_has ls 5 [(0, .ref h0), (1, .int p1), (2, .int p2), (3, .int l3), (4, .int l4)] → W p l e rmX10_placesOf s m args below meth c H locs 0 0 (MQ below (QI G DA res (wX10 G h0 a0 f0 A0)) args s 0 0 DA) (F0 m 5 ls []) := by
  obtain ⟨hx, hb, hml, hown, hts⟩ := C0.1
  have hK := C0.2.2.2.1
  intro l3 l4 h _ _ _ hPD hS hl
  unfold f10_placesOf_b5 at h
  refine lv_iload hx hb dX10_placesOf_5 (lv_at hl 4 rfl) ?_
  refine lv_iload_n hx hb dX10_placesOf_7 rfl (lv_at hl 2 rfl) ?_
  refine lv_icmp_ge (tgt := 32) hx hb dX10_placesOf_8 (by decide) (fun cc1 => ?_) (fun cc1 => ?_)
  · have h := (if_pos cc1).symm.trans h
    refine lv_iload_n hx hb dX10_placesOf_32 rfl (lv_at hl 3 rfl) ?_
    obtain rfl := Option.some.inj h
    exact eI C0 hPD.1 hPD.2 hS rfl dX10_placesOf_33
  · have h := (if_neg cc1).symm.trans h
    refine lv_iload_n hx hb dX10_placesOf_11 rfl (lv_at hl 3 rfl) ?_
    refine lv_aload_n hx hb dX10_placesOf_12 rfl (lv_at hl 0 rfl) ?_
    refine va_get (D := G.1) (ci := 10) (v := .ref (a0 50)) (C := RX10) (T := TX10) (N := 52) hx hb hts inlX10 hown hK hPD.1 0 rfl rfl 50 (by decide) (hts _ gw_817) (fun _ h9 => h9) rfl dX10_placesOf_13 ?_
    refine lv_bipush (v := 6) hx hb dX10_placesOf_16 (by decide) ?_
    refine lv_iload hx hb dX10_placesOf_18 (lv_at hl 4 rfl) ?_
    refine lv_imul hx hb dX10_placesOf_20 ?_
    refine lv_iload_n hx hb dX10_placesOf_21 rfl (lv_at hl 1 rfl) ?_
    refine lv_iadd hx hb dX10_placesOf_22 ?_
    obtain ⟨hi_1, h⟩ := ob h
    refine va_iald hx hb hK hPD.1 33 1 rfl rfl hi_1 dX10_placesOf_23 ?_
    refine lv_iadd hx hb dX10_placesOf_24 ?_
    refine lv_istore_n (lv' := [(3, .int (l3 + (gx (A0 50) ((6 * l4) + p1)))), (0, .ref h0), (1, .int p1), (2, .int p2), (4, .int l4)]) hx hb dX10_placesOf_25 rfl hl (by decide) rfl (fun ls hl => ?_)
    refine lv_iinc (v := l4 + 1) (lv' := [(4, .int (l4 + 1)), (3, .int (l3 + (gx (A0 50) ((6 * l4) + p1)))), (0, .ref h0), (1, .int p1), (2, .int p2)]) hx hb dX10_placesOf_26 hl (k := 4) rfl rfl (by decide) rfl (fun ls hl => ?_)
    refine lv_goto (tgt := 5) hx hb dX10_placesOf_29 (by decide) ?_
    exact hk5 (l3 + (gx (A0 50) ((6 * l4) + p1))) (l4 + 1) h _ _ _ hPD hS (lv_sub hl [2, 3, 4, 1, 0] rfl)
set_option maxRecDepth 100000 in
set_option maxHeartbeats 4000000 in
theorem ww_f10_placesOf_l5  (C0 : Cx cX10_placesOf 5 (some .int) RX10 p s m args meth c G DA) {h0 : Nat} {a0 : Nat → Nat} {f0 : Nat → Int32} {A0 : Nat → Nat → Int32} {p1 : Int32} {p2 : Int32}   {res : Int32}  : ∀ (n : Nat) (l3 : Int32) (l4 : Int32), f10_placesOf_l5 f0 A0 p1 p2  n l3 l4 = some res → ∀ (H : Heap) (locs : List Loc) (ls : Array Slot), WD G DA (wX10 G h0 a0 f0 A0) H → va_S DA s.heap H locs → lv_has ls 5 [(0, .ref h0), (1, .int p1), (2, .int p2), (3, .int l3), (4, .int l4)] → W p l e rmX10_placesOf s m args below meth c H locs 0 0 (MQ below (QI G DA res (wX10 G h0 a0 f0 A0)) args s 0 0 DA) (F0 m 5 ls []) := by
  intro n
  induction n with
  | zero => intro l3 l4 h; cases h
  | succ n ih => intro l3 l4 h; exact ww_f10_placesOf_b5 C0  ih l3 l4 h
set_option maxRecDepth 100000 in
set_option maxHeartbeats 4000000 in
theorem kt_X10_placesOf (l : Launch) (G : Gp) (h0 : Nat) (a0 : Nat → Nat) (f0 : Nat → Int32) (A0 : Nat → Nat → Int32) (p1 : Int32) (p2 : Int32) : ∀ {r : Int32}, f10_placesOf f0 A0 p1 p2 = some r → CtrI l yX10_placesOf cX10_placesOf 5 (some .int) rmX10_placesOf G [.ref h0, .int p1, .int p2] (wX10 G h0 a0 f0 A0) r (wX10 G h0 a0 f0 A0) := by
  intro res h
  refine ctrI_of (cc := cX10_placesOf) (maxL := 5) (ret := (some .int)) (by decide +kernel) rfl (Nat.le_of_ble_eq_true rfl) (fun p e s m below meth c DA C0 hP hD ls hl => ?_)
  have hPD : WD G DA (wX10 G h0 a0 f0 A0) s.heap := ⟨hP, hD⟩
  have hS : va_S DA s.heap s.heap [] := va_S.rf
  have hl : lv_has ls 5 [(0, .ref h0), (1, .int p1), (2, .int p2)] := hl
  obtain ⟨hx, hb, hml, hown, hts⟩ := C0.1
  have hK := C0.2.2.2.1
  unfold f10_placesOf at h
  refine lv_iconst (v := 0) hx hb dX10_placesOf_0 (by decide) ?_
  refine lv_istore_n (lv' := [(3, .int 0), (0, .ref h0), (1, .int p1), (2, .int p2)]) hx hb dX10_placesOf_1 rfl hl (by decide) rfl (fun ls hl => ?_)
  refine lv_iconst (v := 0) hx hb dX10_placesOf_2 (by decide) ?_
  refine lv_istore (lv' := [(4, .int 0), (3, .int 0), (0, .ref h0), (1, .int p1), (2, .int p2)]) hx hb dX10_placesOf_3 hl (by decide) rfl (fun ls hl => ?_)
  exact ww_f10_placesOf_l5 C0 NF 0 0 h _ _ _ hPD hS (lv_sub hl [2, 3, 4, 1, 0] rfl)
abbrev rmX10_bench : Room := { frames := 2, cells := 0, slots := 0, locals := 49 }
set_option maxRecDepth 100000 in
set_option maxHeartbeats 4000000 in
theorem ww_f10_bench_b116  (C0 : Cx cX10_bench 9 (some .int) RX10 p s m args meth c G DA) {h0 : Nat} {a0 : Nat → Nat} {p1 : Int32} {p2 : Int32} {p3 : Int32}  {k71 : (Nat → Nat → Int32) → (Nat → Int32) → Int32 → Int32 → Int32 → Int32 → Option (Int32 × (Nat → Nat → Int32) × (Nat → Int32))} {k116 : (Nat → Nat → Int32) → (Nat → Int32) → Int32 → Int32 → Int32 → Int32 → Int32 → Option (Int32 × (Nat → Nat → Int32) × (Nat → Int32))} {res : Int32 × (Nat → Nat → Int32) × (Nat → Int32)} (hk71 : ∀ (A0 : Nat → Nat → Int32) (f0 : Nat → Int32) (l4 : Int32) (l5 : Int32) (l6 : Int32) (l7 : Int32), k71 A0 f0 l4 l5 l6 l7 = some res → ∀ (H : Heap) (locs : List Loc) (ls : Array Slot), WD G DA (wX10 G h0 a0 f0 A0) H → va_S DA s.heap H locs → lv_has ls 9 [(0, .ref h0), (1, .int p1), (2, .int p2), (3, .int p3), (4, .int l4), (5, .int l5), (6, .int l6), (7, .int l7)] → W p l e rmX10_bench s m args below meth c H locs 0 0 (MQ below (QI G DA res.1 (wX10 G h0 a0 res.2.2 res.2.1)) args s 0 0 DA) (F0 m 71 ls [])) (hk116 : ∀ (A0 : Nat → Nat → Int32) (f0 : Nat → Int32) (l4 : Int32) (l5 : Int32) (l6 : Int32) (l7 : Int32) (l8 : Int32), k116 A0 f0 l4 l5 l6 l7 l8 = some res → ∀ (H : Heap) (locs : List Loc) (ls : Array Slot), WD G DA (wX10 G h0 a0 f0 A0) H → va_S DA s.heap H locs → lv_has ls 9 [(0, .ref h0), (1, .int p1), (2, .int p2), (3, .int p3), (4, .int l4), (5, .int l5), (6, .int l6), (7, .int l7), (8, .int l8)] → W p l e rmX10_bench s m args below meth c H locs 0 0 (MQ below (QI G DA res.1 (wX10 G h0 a0 res.2.2 res.2.1)) args s 0 0 DA) (F0 m 116 ls [])) : ∀ (A0 : Nat → Nat → Int32) (f0 : Nat → Int32) (l4 : Int32) (l5 : Int32) (l6 : Int32) (l7 : Int32) (l8 : Int32), f10_bench_b116 p1 p2 p3 k71 k116 A0 f0 l4 l5 l6 l7 l8 = some res → ∀ (H : Heap) (locs : List Loc) (ls : Array Slot), WD G DA (wX10 G h0 a0 f0 A0) H → va_S DA s.heap H locs → lv_has ls 9 [(0, .ref h0), (1, .int p1), (2, .int p2), (3, .int p3), (4, .int l4), (5, .int l5), (6, .int l6), (7, .int l7), (8, .int l8)] → W p l e rmX10_bench s m args below meth c H locs 0 0 (MQ below (QI G DA res.1 (wX10 G h0 a0 res.2.2 res.2.1)) args s 0 0 DA) (F0 m 116 ls []) := by
  obtain ⟨hx, hb, hml, hown, hts⟩ := C0.1
  have hK := C0.2.2.2.1
  intro A0 f0 l4 l5 l6 l7 l8 h _ _ _ hPD hS hl
  unfold f10_bench_b116 at h
  refine lv_iload hx hb dX10_bench_116 (lv_at hl 8 rfl) ?_
  refine lv_iload hx hb dX10_bench_118 (lv_at hl 7 rfl) ?_
  refine lv_icmp_ge (tgt := 147) hx hb dX10_bench_120 (by decide) (fun cc1 => ?_) (fun cc1 => ?_)
  · have h := (if_pos cc1).symm.trans h
    refine lv_iinc (v := l7 + 1) (lv' := [(7, .int (l7 + 1)), (0, .ref h0), (1, .int p1), (2, .int p2), (3, .int p3), (4, .int l4), (5, .int l5), (6, .int l6), (8, .int l8)]) hx hb dX10_bench_147 hl (k := 7) rfl rfl (by decide) rfl (fun ls hl => ?_)
    refine lv_goto (tgt := 71) hx hb dX10_bench_150 (by decide) ?_
    exact hk71 A0 f0 l4 l5 l6 (l7 + 1) h _ _ _ hPD hS (lv_sub hl [1, 2, 3, 4, 5, 6, 7, 0] rfl)
  · have h := (if_neg cc1).symm.trans h
    refine lv_aload_n hx hb dX10_bench_123 rfl (lv_at hl 0 rfl) ?_
    refine lv_iload hx hb dX10_bench_124 (lv_at hl 7 rfl) ?_
    refine lv_iload hx hb dX10_bench_126 (lv_at hl 8 rfl) ?_
    refine lv_iload_n hx hb dX10_bench_128 rfl (lv_at hl 2 rfl) ?_
    obtain ⟨q_6, hq_6, h⟩ := ob2 h
    refine kVI (As := [.int l7, .int l8, .int p2]) (rest := []) C0 (kt_X10_margin l G h0 a0 f0 A0 l7 l8 p2 hq_6) gi_V_X10_366_X10_margin (n := 3) rfl (by decide +kernel) rfl ⟨rfl, rfl, Nat.le_of_ble_eq_true rfl, Nat.le_of_ble_eq_true rfl⟩ hPD hS 0 10 rfl rfl rfl [0, 1, 2, 3, 4, 5, 6, 7, 8, 9, 10, 11, 12, 13, 14, 15, 16, 17, 18, 19, 20, 21, 22, 23, 24, 25, 26, 27, 28, 29, 30, 31, 32, 33] [] [0, 1, 2, 3, 4, 5, 6, 7, 8, 9, 10, 11, 12, 13, 14, 15, 16, 17, 18, 19, 20, 21, 22, 23, 24, 25, 26, 27, 28, 29, 30, 31, 32, 33] (wr := ([] : va_W)) (wN := (wX10 G h0 a0 f0 A0)) rfl rfl rfl rfl rfl hl.1 (Nat.le_of_ble_eq_true rfl) dX10_bench_129 (fun H locs hPD hS => ?_)
    refine lv_if_ne (tgt := 141) hx hb dX10_bench_132 (by decide) (fun cc1 => ?_) (fun cc1 => ?_)
    · have h := (if_neg cc1).symm.trans h
      refine lv_iinc (v := l8 + 1) (lv' := [(8, .int (l8 + 1)), (0, .ref h0), (1, .int p1), (2, .int p2), (3, .int p3), (4, .int l4), (5, .int l5), (6, .int l6), (7, .int l7)]) hx hb dX10_bench_141 hl (k := 8) rfl rfl (by decide) rfl (fun ls hl => ?_)
      refine lv_goto (tgt := 116) hx hb dX10_bench_144 (by decide) ?_
      exact hk116 A0 f0 l4 l5 l6 l7 (l8 + 1) h _ _ _ hPD hS (lv_sub hl [1, 2, 3, 4, 5, 6, 7, 8, 0] rfl)
    · have h := (if_pos cc1).symm.trans h
      refine lv_iload hx hb dX10_bench_135 (lv_at hl 6 rfl) ?_
      refine lv_iconst (v := 1) hx hb dX10_bench_137 (by decide) ?_
      refine lv_iadd hx hb dX10_bench_138 ?_
      refine lv_istore (lv' := [(6, .int (l6 + 1)), (0, .ref h0), (1, .int p1), (2, .int p2), (3, .int p3), (4, .int l4), (5, .int l5), (7, .int l7), (8, .int l8)]) hx hb dX10_bench_139 hl (by decide) rfl (fun ls hl => ?_)
      refine lv_iinc (v := l8 + 1) (lv' := [(8, .int (l8 + 1)), (6, .int (l6 + 1)), (0, .ref h0), (1, .int p1), (2, .int p2), (3, .int p3), (4, .int l4), (5, .int l5), (7, .int l7)]) hx hb dX10_bench_141 hl (k := 8) rfl rfl (by decide) rfl (fun ls hl => ?_)
      refine lv_goto (tgt := 116) hx hb dX10_bench_144 (by decide) ?_
      exact hk116 A0 f0 l4 l5 (l6 + 1) l7 (l8 + 1) h _ _ _ hPD hS (lv_sub hl [2, 3, 4, 5, 6, 7, 1, 8, 0] rfl)
set_option maxRecDepth 100000 in
set_option maxHeartbeats 4000000 in
theorem ww_f10_bench_l116  (C0 : Cx cX10_bench 9 (some .int) RX10 p s m args meth c G DA) {h0 : Nat} {a0 : Nat → Nat} {p1 : Int32} {p2 : Int32} {p3 : Int32}  {k71 : (Nat → Nat → Int32) → (Nat → Int32) → Int32 → Int32 → Int32 → Int32 → Option (Int32 × (Nat → Nat → Int32) × (Nat → Int32))} {res : Int32 × (Nat → Nat → Int32) × (Nat → Int32)} (hk71 : ∀ (A0 : Nat → Nat → Int32) (f0 : Nat → Int32) (l4 : Int32) (l5 : Int32) (l6 : Int32) (l7 : Int32), k71 A0 f0 l4 l5 l6 l7 = some res → ∀ (H : Heap) (locs : List Loc) (ls : Array Slot), WD G DA (wX10 G h0 a0 f0 A0) H → va_S DA s.heap H locs → lv_has ls 9 [(0, .ref h0), (1, .int p1), (2, .int p2), (3, .int p3), (4, .int l4), (5, .int l5), (6, .int l6), (7, .int l7)] → W p l e rmX10_bench s m args below meth c H locs 0 0 (MQ below (QI G DA res.1 (wX10 G h0 a0 res.2.2 res.2.1)) args s 0 0 DA) (F0 m 71 ls [])) : ∀ (n : Nat) (A0 : Nat → Nat → Int32) (f0 : Nat → Int32) (l4 : Int32) (l5 : Int32) (l6 : Int32) (l7 : Int32) (l8 : Int32), f10_bench_l116 p1 p2 p3 k71 n A0 f0 l4 l5 l6 l7 l8 = some res → ∀ (H : Heap) (locs : List Loc) (ls : Array Slot), WD G DA (wX10 G h0 a0 f0 A0) H → va_S DA s.heap H locs → lv_has ls 9 [(0, .ref h0), (1, .int p1), (2, .int p2), (3, .int p3), (4, .int l4), (5, .int l5), (6, .int l6), (7, .int l7), (8, .int l8)] → W p l e rmX10_bench s m args below meth c H locs 0 0 (MQ below (QI G DA res.1 (wX10 G h0 a0 res.2.2 res.2.1)) args s 0 0 DA) (F0 m 116 ls []) := by
  intro n
  induction n with
  | zero => intro A0 f0 l4 l5 l6 l7 l8 h; cases h
  | succ n ih => intro A0 f0 l4 l5 l6 l7 l8 h; exact ww_f10_bench_b116 C0 hk71 ih A0 f0 l4 l5 l6 l7 l8 h
set_option maxRecDepth 100000 in
set_option maxHeartbeats 4000000 in
theorem ww_f10_bench_b92  (C0 : Cx cX10_bench 9 (some .int) RX10 p s m args meth c G DA) {h0 : Nat} {a0 : Nat → Nat} {p1 : Int32} {p2 : Int32} {p3 : Int32}  {k71 : (Nat → Nat → Int32) → (Nat → Int32) → Int32 → Int32 → Int32 → Int32 → Option (Int32 × (Nat → Nat → Int32) × (Nat → Int32))} {res : Int32 × (Nat → Nat → Int32) × (Nat → Int32)} (hk71 : ∀ (A0 : Nat → Nat → Int32) (f0 : Nat → Int32) (l4 : Int32) (l5 : Int32) (l6 : Int32) (l7 : Int32), k71 A0 f0 l4 l5 l6 l7 = some res → ∀ (H : Heap) (locs : List Loc) (ls : Array Slot), WD G DA (wX10 G h0 a0 f0 A0) H → va_S DA s.heap H locs → lv_has ls 9 [(0, .ref h0), (1, .int p1), (2, .int p2), (3, .int p3), (4, .int l4), (5, .int l5), (6, .int l6), (7, .int l7)] → W p l e rmX10_bench s m args below meth c H locs 0 0 (MQ below (QI G DA res.1 (wX10 G h0 a0 res.2.2 res.2.1)) args s 0 0 DA) (F0 m 71 ls [])) : ∀ (A0 : Nat → Nat → Int32) (f0 : Nat → Int32) (l4 : Int32) (l5 : Int32) (l6 : Int32) (l7 : Int32), f10_bench_b92 p1 p2 p3 k71 A0 f0 l4 l5 l6 l7 = some res → ∀ (H : Heap) (locs : List Loc) (ls : Array Slot), WD G DA (wX10 G h0 a0 f0 A0) H → va_S DA s.heap H locs → lv_has ls 9 [(0, .ref h0), (1, .int p1), (2, .int p2), (3, .int p3), (4, .int l4), (5, .int l5), (6, .int l6), (7, .int l7)] → W p l e rmX10_bench s m args below meth c H locs 0 0 (MQ below (QI G DA res.1 (wX10 G h0 a0 res.2.2 res.2.1)) args s 0 0 DA) (F0 m 92 ls []) := by
  obtain ⟨hx, hb, hml, hown, hts⟩ := C0.1
  have hK := C0.2.2.2.1
  intro A0 f0 l4 l5 l6 l7 h _ _ _ hPD hS hl
  unfold f10_bench_b92 at h
  refine lv_aload_n hx hb dX10_bench_92 rfl (lv_at hl 0 rfl) ?_
  refine lv_iload hx hb dX10_bench_93 (lv_at hl 7 rfl) ?_
  refine lv_iload_n hx hb dX10_bench_95 rfl (lv_at hl 2 rfl) ?_
  obtain ⟨q_4, hq_4, h⟩ := ob2 h
  refine kVI (As := [.int l7, .int p2]) (rest := []) C0 (kt_X10_placesOf l G h0 a0 f0 A0 l7 p2 hq_4) gi_V_X10_375_X10_placesOf (n := 2) rfl (by decide +kernel) rfl ⟨rfl, rfl, Nat.le_of_ble_eq_true rfl, Nat.le_of_ble_eq_true rfl⟩ hPD hS 0 10 rfl rfl rfl [0, 1, 2, 3, 4, 5, 6, 7, 8, 9, 10, 11, 12, 13, 14, 15, 16, 17, 18, 19, 20, 21, 22, 23, 24, 25, 26, 27, 28, 29, 30, 31, 32, 33] [] [0, 1, 2, 3, 4, 5, 6, 7, 8, 9, 10, 11, 12, 13, 14, 15, 16, 17, 18, 19, 20, 21, 22, 23, 24, 25, 26, 27, 28, 29, 30, 31, 32, 33] (wr := ([] : va_W)) (wN := (wX10 G h0 a0 f0 A0)) rfl rfl rfl rfl rfl hl.1 (Nat.le_of_ble_eq_true rfl) dX10_bench_96 (fun H locs hPD hS => ?_)
  refine lv_aload_n hx hb dX10_bench_99 rfl (lv_at hl 0 rfl) ?_
  refine lv_iload hx hb dX10_bench_100 (lv_at hl 5 rfl) ?_
  refine lv_iload_n hx hb dX10_bench_102 rfl (lv_at hl 2 rfl) ?_
  obtain ⟨q_5, hq_5, h⟩ := ob2 h
  refine kVI (As := [.int l5, .int p2]) (rest := [.int q_4]) C0 (kt_X10_placesOf l G h0 a0 f0 A0 l5 p2 hq_5) gi_V_X10_375_X10_placesOf (n := 2) rfl (by decide +kernel) rfl ⟨rfl, rfl, Nat.le_of_ble_eq_true rfl, Nat.le_of_ble_eq_true rfl⟩ hPD hS 0 10 rfl rfl rfl [0, 1, 2, 3, 4, 5, 6, 7, 8, 9, 10, 11, 12, 13, 14, 15, 16, 17, 18, 19, 20, 21, 22, 23, 24, 25, 26, 27, 28, 29, 30, 31, 32, 33] [] [0, 1, 2, 3, 4, 5, 6, 7, 8, 9, 10, 11, 12, 13, 14, 15, 16, 17, 18, 19, 20, 21, 22, 23, 24, 25, 26, 27, 28, 29, 30, 31, 32, 33] (wr := ([] : va_W)) (wN := (wX10 G h0 a0 f0 A0)) rfl rfl rfl rfl rfl hl.1 (Nat.le_of_ble_eq_true rfl) dX10_bench_103 (fun H locs hPD hS => ?_)
  refine lv_icmp_ge (tgt := 113) hx hb dX10_bench_106 (by decide) (fun cc1 => ?_) (fun cc1 => ?_)
  · have h := (if_pos cc1).symm.trans h
    refine lv_iconst (v := 0) hx hb dX10_bench_113 (by decide) ?_
    refine lv_istore (lv' := [(8, .int 0), (0, .ref h0), (1, .int p1), (2, .int p2), (3, .int p3), (4, .int l4), (5, .int l5), (6, .int l6), (7, .int l7)]) hx hb dX10_bench_114 hl (by decide) rfl (fun ls hl => ?_)
    exact ww_f10_bench_l116 C0 hk71 NF A0 f0 l4 l5 l6 l7 0 h _ _ _ hPD hS (lv_sub hl [1, 2, 3, 4, 5, 6, 7, 8, 0] rfl)
  · have h := (if_neg cc1).symm.trans h
    refine lv_iload hx hb dX10_bench_109 (lv_at hl 7 rfl) ?_
    refine lv_istore (lv' := [(5, .int l7), (0, .ref h0), (1, .int p1), (2, .int p2), (3, .int p3), (4, .int l4), (6, .int l6), (7, .int l7)]) hx hb dX10_bench_111 hl (by decide) rfl (fun ls hl => ?_)
    refine lv_iconst (v := 0) hx hb dX10_bench_113 (by decide) ?_
    refine lv_istore (lv' := [(8, .int 0), (5, .int l7), (0, .ref h0), (1, .int p1), (2, .int p2), (3, .int p3), (4, .int l4), (6, .int l6), (7, .int l7)]) hx hb dX10_bench_114 hl (by decide) rfl (fun ls hl => ?_)
    exact ww_f10_bench_l116 C0 hk71 NF A0 f0 l4 l7 l6 l7 0 h _ _ _ hPD hS (lv_sub hl [2, 3, 4, 5, 6, 1, 7, 8, 0] rfl)
set_option maxRecDepth 100000 in
set_option maxHeartbeats 4000000 in
theorem ww_f10_bench_b71  (C0 : Cx cX10_bench 9 (some .int) RX10 p s m args meth c G DA) {h0 : Nat} {a0 : Nat → Nat} {p1 : Int32} {p2 : Int32} {p3 : Int32}  {k71 : (Nat → Nat → Int32) → (Nat → Int32) → Int32 → Int32 → Int32 → Int32 → Option (Int32 × (Nat → Nat → Int32) × (Nat → Int32))} {res : Int32 × (Nat → Nat → Int32) × (Nat → Int32)}  (hk71 : ∀ (A0 : Nat → Nat → Int32) (f0 : Nat → Int32) (l4 : Int32) (l5 : Int32) (l6 : Int32) (l7 : Int32), k71 A0 f0 l4 l5 l6 l7 = some res → ∀ (H : Heap) (locs : List Loc) (ls : Array Slot), WD G DA (wX10 G h0 a0 f0 A0) H → va_S DA s.heap H locs → lv_has ls 9 [(0, .ref h0), (1, .int p1), (2, .int p2), (3, .int p3), (4, .int l4), (5, .int l5), (6, .int l6), (7, .int l7)] → W p l e rmX10_bench s m args below meth c H locs 0 0 (MQ below (QI G DA res.1 (wX10 G h0 a0 res.2.2 res.2.1)) args s 0 0 DA) (F0 m 71 ls [])) : ∀ (A0 : Nat → Nat → Int32) (f0 : Nat → Int32) (l4 : Int32) (l5 : Int32) (l6 : Int32) (l7 : Int32), f10_bench_b71 p1 p2 p3  k71 A0 f0 l4 l5 l6 l7 = some res → ∀ (H : Heap) (locs : List Loc) (ls : Array Slot), WD G DA (wX10 G h0 a0 f0 A0) H → va_S DA s.heap H locs → lv_has ls 9 [(0, .ref h0), (1, .int p1), (2, .int p2), (3, .int p3), (4, .int l4), (5, .int l5), (6, .int l6), (7, .int l7)] → W p l e rmX10_bench s m args below meth c H locs 0 0 (MQ below (QI G DA res.1 (wX10 G h0 a0 res.2.2 res.2.1)) args s 0 0 DA) (F0 m 71 ls []) := by
  obtain ⟨hx, hb, hml, hown, hts⟩ := C0.1
  have hK := C0.2.2.2.1
  intro A0 f0 l4 l5 l6 l7 h _ _ _ hPD hS hl
  unfold f10_bench_b71 at h
  refine lv_iload hx hb dX10_bench_71 (lv_at hl 7 rfl) ?_
  refine lv_iload_n hx hb dX10_bench_73 rfl (lv_at hl 1 rfl) ?_
  refine lv_icmp_ge (tgt := 153) hx hb dX10_bench_74 (by decide) (fun cc1 => ?_) (fun cc1 => ?_)
  · have h := (if_pos cc1).symm.trans h
    refine lv_iload_n hx hb dX10_bench_153 rfl (lv_at hl 3 rfl) ?_
    refine lv_if_ne (tgt := 162) hx hb dX10_bench_154 (by decide) (fun cc1 => ?_) (fun cc1 => ?_)
    · have h := (if_neg cc1).symm.trans h
      refine lv_iload_n hx hb dX10_bench_162 rfl (lv_at hl 3 rfl) ?_
      refine lv_iconst (v := 1) hx hb dX10_bench_163 (by decide) ?_
      refine lv_icmp_ne (tgt := 172) hx hb dX10_bench_164 (by decide) (fun cc1 => ?_) (fun cc1 => ?_)
      · have h := (if_neg cc1).symm.trans h
        refine lv_iload hx hb dX10_bench_172 (lv_at hl 6 rfl) ?_
        obtain rfl := Option.some.inj h
        exact eI C0 hPD.1 hPD.2 hS rfl dX10_bench_174
      · have h := (if_pos cc1).symm.trans h
        refine lv_iload hx hb dX10_bench_167 (lv_at hl 5 rfl) ?_
        refine lv_goto (tgt := 174) hx hb dX10_bench_169 (by decide) ?_
        obtain rfl := Option.some.inj h
        exact eI C0 hPD.1 hPD.2 hS rfl dX10_bench_174
    · have h := (if_pos cc1).symm.trans h
      refine lv_iload hx hb dX10_bench_157 (lv_at hl 4 rfl) ?_
      refine lv_goto (tgt := 174) hx hb dX10_bench_159 (by decide) ?_
      obtain rfl := Option.some.inj h
      exact eI C0 hPD.1 hPD.2 hS rfl dX10_bench_174
  · have h := (if_neg cc1).symm.trans h
    refine lv_aload_n hx hb dX10_bench_77 rfl (lv_at hl 0 rfl) ?_
    refine lv_iload hx hb dX10_bench_78 (lv_at hl 7 rfl) ?_
    refine lv_iload_n hx hb dX10_bench_80 rfl (lv_at hl 1 rfl) ?_
    refine lv_iload_n hx hb dX10_bench_81 rfl (lv_at hl 2 rfl) ?_
    obtain ⟨q_3, hq_3, h⟩ := ob2 h
    refine kVI (As := [.int l7, .int p1, .int p2]) (rest := []) C0 (kt_X10_beatsAll l G h0 a0 f0 A0 l7 p1 p2 hq_3) gi_V_X10_372_X10_beatsAll (n := 3) rfl (by decide +kernel) rfl ⟨rfl, rfl, Nat.le_of_ble_eq_true rfl, Nat.le_of_ble_eq_true rfl⟩ hPD hS 0 10 rfl rfl rfl [0, 1, 2, 3, 4, 5, 6, 7, 8, 9, 10, 11, 12, 13, 14, 15, 16, 17, 18, 19, 20, 21, 22, 23, 24, 25, 26, 27, 28, 29, 30, 31, 32, 33] [] [0, 1, 2, 3, 4, 5, 6, 7, 8, 9, 10, 11, 12, 13, 14, 15, 16, 17, 18, 19, 20, 21, 22, 23, 24, 25, 26, 27, 28, 29, 30, 31, 32, 33] (wr := ([] : va_W)) (wN := (wX10 G h0 a0 f0 A0)) rfl rfl rfl rfl rfl hl.1 (Nat.le_of_ble_eq_true rfl) dX10_bench_82 (fun H locs hPD hS => ?_)
    refine lv_if_eq (tgt := 92) hx hb dX10_bench_85 (by decide) (fun cc1 => ?_) (fun cc1 => ?_)
    · have h := (if_pos cc1).symm.trans h
      exact ww_f10_bench_b92 C0 hk71 A0 f0 l4 l5 l6 l7 h _ _ _ hPD hS (lv_sub hl [0, 1, 2, 3, 4, 5, 6, 7] rfl)
    · have h := (if_neg cc1).symm.trans h
      refine lv_iload hx hb dX10_bench_88 (lv_at hl 7 rfl) ?_
      refine lv_istore (lv' := [(4, .int l7), (0, .ref h0), (1, .int p1), (2, .int p2), (3, .int p3), (5, .int l5), (6, .int l6), (7, .int l7)]) hx hb dX10_bench_90 hl (by decide) rfl (fun ls hl => ?_)
      exact ww_f10_bench_b92 C0 hk71 A0 f0 l7 l5 l6 l7 h _ _ _ hPD hS (lv_sub hl [1, 2, 3, 4, 0, 5, 6, 7] rfl)
set_option maxRecDepth 100000 in
set_option maxHeartbeats 4000000 in
theorem ww_f10_bench_l71  (C0 : Cx cX10_bench 9 (some .int) RX10 p s m args meth c G DA) {h0 : Nat} {a0 : Nat → Nat} {p1 : Int32} {p2 : Int32} {p3 : Int32}   {res : Int32 × (Nat → Nat → Int32) × (Nat → Int32)}  : ∀ (n : Nat) (A0 : Nat → Nat → Int32) (f0 : Nat → Int32) (l4 : Int32) (l5 : Int32) (l6 : Int32) (l7 : Int32), f10_bench_l71 p1 p2 p3  n A0 f0 l4 l5 l6 l7 = some res → ∀ (H : Heap) (locs : List Loc) (ls : Array Slot), WD G DA (wX10 G h0 a0 f0 A0) H → va_S DA s.heap H locs → lv_has ls 9 [(0, .ref h0), (1, .int p1), (2, .int p2), (3, .int p3), (4, .int l4), (5, .int l5), (6, .int l6), (7, .int l7)] → W p l e rmX10_bench s m args below meth c H locs 0 0 (MQ below (QI G DA res.1 (wX10 G h0 a0 res.2.2 res.2.1)) args s 0 0 DA) (F0 m 71 ls []) := by
  intro n
  induction n with
  | zero => intro A0 f0 l4 l5 l6 l7 h; cases h
  | succ n ih => intro A0 f0 l4 l5 l6 l7 h; exact ww_f10_bench_b71 C0  ih A0 f0 l4 l5 l6 l7 h
set_option maxRecDepth 100000 in
set_option maxHeartbeats 4000000 in
theorem kt_X10_bench (l : Launch) (G : Gp) (h0 : Nat) (a0 : Nat → Nat) (f0 : Nat → Int32) (A0 : Nat → Nat → Int32) (p1 : Int32) (p2 : Int32) (p3 : Int32) : ∀ {r : Int32 × (Nat → Nat → Int32) × (Nat → Int32)}, f10_bench f0 A0 p1 p2 p3 = some r → CtrI l yX10_bench cX10_bench 9 (some .int) rmX10_bench G [.ref h0, .int p1, .int p2, .int p3] (wX10 G h0 a0 f0 A0) r.1 (wX10 G h0 a0 r.2.2 r.2.1) := by
  intro res h
  refine ctrI_of (cc := cX10_bench) (maxL := 9) (ret := (some .int)) (by decide +kernel) rfl (Nat.le_of_ble_eq_true rfl) (fun p e s m below meth c DA C0 hP hD ls hl => ?_)
  have hPD : WD G DA (wX10 G h0 a0 f0 A0) s.heap := ⟨hP, hD⟩
  have hS : va_S DA s.heap s.heap [] := va_S.rf
  have hl : lv_has ls 9 [(0, .ref h0), (1, .int p1), (2, .int p2), (3, .int p3)] := hl
  obtain ⟨hx, hb, hml, hown, hts⟩ := C0.1
  have hK := C0.2.2.2.1
  unfold f10_bench at h
  refine lv_iload_n hx hb dX10_bench_0 rfl (lv_at hl 1 rfl) ?_
  refine lv_iconst (v := 2) hx hb dX10_bench_1 (by decide) ?_
  refine lv_bipush (v := 6) hx hb dX10_bench_2 (by decide) ?_
  refine kSI (As := [.int p1, .int 2, .int 6]) (rest := []) C0 (kt_X10_in l G  p1 2 6) gi_S_X10_112_X10_in (n := 3) rfl (by decide +kernel) ⟨rfl, rfl, Nat.le_of_ble_eq_true rfl, Nat.le_of_ble_eq_true rfl⟩ hPD hS [] [0, 1, 2, 3, 4, 5, 6, 7, 8, 9, 10, 11, 12, 13, 14, 15, 16, 17, 18, 19, 20, 21, 22, 23, 24, 25, 26, 27, 28, 29, 30, 31, 32, 33] [0, 1, 2, 3, 4, 5, 6, 7, 8, 9, 10, 11, 12, 13, 14, 15, 16, 17, 18, 19, 20, 21, 22, 23, 24, 25, 26, 27, 28, 29, 30, 31, 32, 33] (wr := (wX10 G h0 a0 f0 A0)) (wN := (wX10 G h0 a0 f0 A0)) rfl rfl rfl rfl rfl hl.1 (Nat.le_of_ble_eq_true rfl) dX10_bench_4 (fun H locs hPD hS => ?_)
  refine lv_if_eq (tgt := 39) hx hb dX10_bench_7 (by decide) (fun cc1 => ?_) (fun cc1 => ?_)
  · have h := (if_pos cc1).symm.trans h
    refine lv_iconst (v := (-1)) hx hb dX10_bench_39 (by decide) ?_
    obtain rfl := Option.some.inj h
    exact eI C0 hPD.1 hPD.2 hS rfl dX10_bench_40
  · have h := (if_neg cc1).symm.trans h
    refine lv_iload_n hx hb dX10_bench_10 rfl (lv_at hl 2 rfl) ?_
    refine lv_iconst (v := 1) hx hb dX10_bench_11 (by decide) ?_
    refine lv_bipush (v := 9) hx hb dX10_bench_12 (by decide) ?_
    refine kSI (As := [.int p2, .int 1, .int 9]) (rest := []) C0 (kt_X10_in l G  p2 1 9) gi_S_X10_112_X10_in (n := 3) rfl (by decide +kernel) ⟨rfl, rfl, Nat.le_of_ble_eq_true rfl, Nat.le_of_ble_eq_true rfl⟩ hPD hS [] [0, 1, 2, 3, 4, 5, 6, 7, 8, 9, 10, 11, 12, 13, 14, 15, 16, 17, 18, 19, 20, 21, 22, 23, 24, 25, 26, 27, 28, 29, 30, 31, 32, 33] [0, 1, 2, 3, 4, 5, 6, 7, 8, 9, 10, 11, 12, 13, 14, 15, 16, 17, 18, 19, 20, 21, 22, 23, 24, 25, 26, 27, 28, 29, 30, 31, 32, 33] (wr := (wX10 G h0 a0 f0 A0)) (wN := (wX10 G h0 a0 f0 A0)) rfl rfl rfl rfl rfl hl.1 (Nat.le_of_ble_eq_true rfl) dX10_bench_14 (fun H locs hPD hS => ?_)
    refine lv_if_eq (tgt := 39) hx hb dX10_bench_17 (by decide) (fun cc1 => ?_) (fun cc1 => ?_)
    · have h := (if_pos cc1).symm.trans h
      refine lv_iconst (v := (-1)) hx hb dX10_bench_39 (by decide) ?_
      obtain rfl := Option.some.inj h
      exact eI C0 hPD.1 hPD.2 hS rfl dX10_bench_40
    · have h := (if_neg cc1).symm.trans h
      refine lv_iload_n hx hb dX10_bench_20 rfl (lv_at hl 3 rfl) ?_
      refine lv_iconst (v := 0) hx hb dX10_bench_21 (by decide) ?_
      refine lv_iconst (v := 2) hx hb dX10_bench_22 (by decide) ?_
      refine kSI (As := [.int p3, .int 0, .int 2]) (rest := []) C0 (kt_X10_in l G  p3 0 2) gi_S_X10_112_X10_in (n := 3) rfl (by decide +kernel) ⟨rfl, rfl, Nat.le_of_ble_eq_true rfl, Nat.le_of_ble_eq_true rfl⟩ hPD hS [] [0, 1, 2, 3, 4, 5, 6, 7, 8, 9, 10, 11, 12, 13, 14, 15, 16, 17, 18, 19, 20, 21, 22, 23, 24, 25, 26, 27, 28, 29, 30, 31, 32, 33] [0, 1, 2, 3, 4, 5, 6, 7, 8, 9, 10, 11, 12, 13, 14, 15, 16, 17, 18, 19, 20, 21, 22, 23, 24, 25, 26, 27, 28, 29, 30, 31, 32, 33] (wr := (wX10 G h0 a0 f0 A0)) (wN := (wX10 G h0 a0 f0 A0)) rfl rfl rfl rfl rfl hl.1 (Nat.le_of_ble_eq_true rfl) dX10_bench_23 (fun H locs hPD hS => ?_)
      refine lv_if_eq (tgt := 39) hx hb dX10_bench_26 (by decide) (fun cc1 => ?_) (fun cc1 => ?_)
      · have h := (if_pos cc1).symm.trans h
        refine lv_iconst (v := (-1)) hx hb dX10_bench_39 (by decide) ?_
        obtain rfl := Option.some.inj h
        exact eI C0 hPD.1 hPD.2 hS rfl dX10_bench_40
      · have h := (if_neg cc1).symm.trans h
        refine lv_iload_n hx hb dX10_bench_29 rfl (lv_at hl 1 rfl) ?_
        refine lv_iload_n hx hb dX10_bench_30 rfl (lv_at hl 2 rfl) ?_
        refine lv_imul hx hb dX10_bench_31 ?_
        refine lv_aload_n hx hb dX10_bench_32 rfl (lv_at hl 0 rfl) ?_
        refine va_get (D := G.1) (ci := 10) (v := .int (f0 8)) (C := RX10) (T := TX10) (N := 52) hx hb hts inlX10 hown hK hPD.1 0 rfl rfl 8 (by decide) (hts _ gw_546) (fun _ h9 => h9) rfl dX10_bench_33 ?_
        refine lv_icmp_le (tgt := 41) hx hb dX10_bench_36 (by decide) (fun cc1 => ?_) (fun cc1 => ?_)
        · have h := (if_pos cc1).symm.trans h
          refine lv_aload_n hx hb dX10_bench_41 rfl (lv_at hl 0 rfl) ?_
          refine lv_iconst (v := 0) hx hb dX10_bench_42 (by decide) ?_
          refine va_put (D := G.1) (ci := 10) (v := .int 0) (ty := .int) (C := RX10) (T := TX10) (N := 52) hx hb hts inlX10 tyX10 tyX10_ok nmX10 hown hK hPD.1 hPD.2 hS 0 rfl rfl 8 (by decide) (hts _ gw_546) (fun _ h9 => h9) rfl (by decide +kernel) rfl rfl (Nat.le_of_ble_eq_true rfl) dX10_bench_43 (fun H locs hP hD hS => ?_)
          obtain ⟨f0_1, ef0_1, h⟩ := lvl h
          have hPD : WD G DA (wX10 G h0 a0 f0_1 A0) H := by rw [ef0_1]; exact ⟨hP, hD⟩
          clear ef0_1 hP hD
          refine lv_aload_n hx hb dX10_bench_46 rfl (lv_at hl 0 rfl) ?_
          refine lv_iload_n hx hb dX10_bench_47 rfl (lv_at hl 1 rfl) ?_
          refine lv_iload_n hx hb dX10_bench_48 rfl (lv_at hl 2 rfl) ?_
          obtain ⟨q_2, hq_2, h⟩ := ob2 h
          refine kVI (As := [.int p1, .int p2]) (rest := []) C0 (kt_X10_laysRanks l G h0 a0 f0_1 A0 p1 p2 hq_2) gi_V_X10_369_X10_laysRanks (n := 2) rfl (by decide +kernel) rfl ⟨rfl, rfl, Nat.le_of_ble_eq_true rfl, Nat.le_of_ble_eq_true rfl⟩ hPD hS 0 10 rfl rfl rfl [0, 1, 2, 3, 4, 5, 6, 7, 8, 9, 10, 11, 12, 13, 14, 15, 16, 17, 18, 19, 20, 21, 22, 23, 24, 25, 26, 27, 28, 29, 30, 31, 32, 33] [] [0, 1, 2, 3, 4, 5, 6, 7, 8, 9, 10, 11, 12, 13, 14, 15, 16, 17, 18, 19, 20, 21, 22, 23, 24, 25, 26, 27, 28, 29, 30, 31, 32, 33] (wr := ([] : va_W)) (wN := (wX10 G h0 a0 f0_1 q_2.2)) rfl rfl rfl rfl rfl hl.1 (Nat.le_of_ble_eq_true rfl) dX10_bench_49 (fun H locs hPD hS => ?_)
          refine lv_if_ne (tgt := 58) hx hb dX10_bench_52 (by decide) (fun cc1 => ?_) (fun cc1 => ?_)
          · have h := (if_neg cc1).symm.trans h
            refine lv_bipush (v := (-2)) hx hb dX10_bench_58 (by decide) ?_
            refine lv_istore (lv' := [(4, .int (-2)), (0, .ref h0), (1, .int p1), (2, .int p2), (3, .int p3)]) hx hb dX10_bench_60 hl (by decide) rfl (fun ls hl => ?_)
            refine lv_iconst (v := 0) hx hb dX10_bench_62 (by decide) ?_
            refine lv_istore (lv' := [(5, .int 0), (4, .int (-2)), (0, .ref h0), (1, .int p1), (2, .int p2), (3, .int p3)]) hx hb dX10_bench_63 hl (by decide) rfl (fun ls hl => ?_)
            refine lv_iconst (v := 0) hx hb dX10_bench_65 (by decide) ?_
            refine lv_istore (lv' := [(6, .int 0), (5, .int 0), (4, .int (-2)), (0, .ref h0), (1, .int p1), (2, .int p2), (3, .int p3)]) hx hb dX10_bench_66 hl (by decide) rfl (fun ls hl => ?_)
            refine lv_iconst (v := 0) hx hb dX10_bench_68 (by decide) ?_
            refine lv_istore (lv' := [(7, .int 0), (6, .int 0), (5, .int 0), (4, .int (-2)), (0, .ref h0), (1, .int p1), (2, .int p2), (3, .int p3)]) hx hb dX10_bench_69 hl (by decide) rfl (fun ls hl => ?_)
            exact ww_f10_bench_l71 C0 NF q_2.2 f0_1 (-2) 0 0 0 h _ _ _ hPD hS (lv_sub hl [4, 5, 6, 7, 3, 2, 1, 0] rfl)
          · have h := (if_pos cc1).symm.trans h
            refine lv_bipush (v := (-3)) hx hb dX10_bench_55 (by decide) ?_
            obtain rfl := Option.some.inj h
            exact eI C0 hPD.1 hPD.2 hS rfl dX10_bench_57
        · have h := (if_neg cc1).symm.trans h
          refine lv_iconst (v := (-1)) hx hb dX10_bench_39 (by decide) ?_
          obtain rfl := Option.some.inj h
          exact eI C0 hPD.1 hPD.2 hS rfl dX10_bench_40
abbrev rmX10_beats : Room := { frames := 1, cells := 0, slots := 0, locals := 21 }
set_option maxRecDepth 100000 in
set_option maxHeartbeats 4000000 in
theorem kt_X10_beats (l : Launch) (G : Gp) (h0 : Nat) (a0 : Nat → Nat) (f0 : Nat → Int32) (A0 : Nat → Nat → Int32) (p1 : Int32) (p2 : Int32) : ∀ {r : Int32}, f10_beats f0 A0 p1 p2 = some r → CtrI l yX10_beats cX10_beats 5 (some .boolean) rmX10_beats G [.ref h0, .int p1, .int p2] (wX10 G h0 a0 f0 A0) r (wX10 G h0 a0 f0 A0) := by
  intro res h
  refine ctrI_of (cc := cX10_beats) (maxL := 5) (ret := (some .boolean)) (by decide +kernel) rfl (Nat.le_of_ble_eq_true rfl) (fun p e s m below meth c DA C0 hP hD ls hl => ?_)
  have hPD : WD G DA (wX10 G h0 a0 f0 A0) s.heap := ⟨hP, hD⟩
  have hS : va_S DA s.heap s.heap [] := va_S.rf
  have hl : lv_has ls 5 [(0, .ref h0), (1, .int p1), (2, .int p2)] := hl
  obtain ⟨hx, hb, hml, hown, hts⟩ := C0.1
  have hK := C0.2.2.2.1
  unfold f10_beats at h
  refine lv_aload_n hx hb dX10_beats_0 rfl (lv_at hl 0 rfl) ?_
  refine lv_iconst (v := 2) hx hb dX10_beats_1 (by decide) ?_
  refine lv_iload_n hx hb dX10_beats_2 rfl (lv_at hl 1 rfl) ?_
  refine lv_imul hx hb dX10_beats_3 ?_
  obtain ⟨q_1, hq_1, h⟩ := ob2 h
  refine kVI (As := [.int (2 * p1)]) (rest := []) C0 (kt_X10_octet l G h0 a0 f0 A0 (2 * p1) hq_1) gi_V_X10_360_X10_octet (n := 1) rfl (by decide +kernel) rfl ⟨rfl, rfl, Nat.le_of_ble_eq_true rfl, Nat.le_of_ble_eq_true rfl⟩ hPD hS 0 10 rfl rfl rfl [0, 1, 2, 3, 4, 5, 6, 7, 8, 9, 10, 11, 12, 13, 14, 15, 16, 17, 18, 19, 20, 21, 22, 23, 24, 25, 26, 27, 28, 29, 30, 31, 32, 33] [] [0, 1, 2, 3, 4, 5, 6, 7, 8, 9, 10, 11, 12, 13, 14, 15, 16, 17, 18, 19, 20, 21, 22, 23, 24, 25, 26, 27, 28, 29, 30, 31, 32, 33] (wr := ([] : va_W)) (wN := (wX10 G h0 a0 f0 A0)) rfl rfl rfl rfl rfl hl.1 (Nat.le_of_ble_eq_true rfl) dX10_beats_4 (fun H locs hPD hS => ?_)
  refine lv_aload_n hx hb dX10_beats_7 rfl (lv_at hl 0 rfl) ?_
  refine lv_iconst (v := 2) hx hb dX10_beats_8 (by decide) ?_
  refine lv_iload_n hx hb dX10_beats_9 rfl (lv_at hl 2 rfl) ?_
  refine lv_imul hx hb dX10_beats_10 ?_
  obtain ⟨q_2, hq_2, h⟩ := ob2 h
  refine kVI (As := [.int (2 * p2)]) (rest := [.int q_1]) C0 (kt_X10_octet l G h0 a0 f0 A0 (2 * p2) hq_2) gi_V_X10_360_X10_octet (n := 1) rfl (by decide +kernel) rfl ⟨rfl, rfl, Nat.le_of_ble_eq_true rfl, Nat.le_of_ble_eq_true rfl⟩ hPD hS 0 10 rfl rfl rfl [0, 1, 2, 3, 4, 5, 6, 7, 8, 9, 10, 11, 12, 13, 14, 15, 16, 17, 18, 19, 20, 21, 22, 23, 24, 25, 26, 27, 28, 29, 30, 31, 32, 33] [] [0, 1, 2, 3, 4, 5, 6, 7, 8, 9, 10, 11, 12, 13, 14, 15, 16, 17, 18, 19, 20, 21, 22, 23, 24, 25, 26, 27, 28, 29, 30, 31, 32, 33] (wr := ([] : va_W)) (wN := (wX10 G h0 a0 f0 A0)) rfl rfl rfl rfl rfl hl.1 (Nat.le_of_ble_eq_true rfl) dX10_beats_11 (fun H locs hPD hS => ?_)
  refine lv_isub hx hb dX10_beats_14 ?_
  refine lv_istore_n (lv' := [(3, .int (q_1 - q_2)), (0, .ref h0), (1, .int p1), (2, .int p2)]) hx hb dX10_beats_15 rfl hl (by decide) rfl (fun ls hl => ?_)
  refine lv_aload_n hx hb dX10_beats_16 rfl (lv_at hl 1 rfl) ?_
  refine lv_iconst (v := 2) hx hb dX10_beats_17 (by decide) ?_
  refine lv_iload_n hx hb dX10_beats_18 rfl (lv_at hl 2 rfl) ?_
  refine lv_imul hx hb dX10_beats_19 ?_
  refine lv_iconst (v := 1) hx hb dX10_beats_20 (by decide) ?_
  refine lv_iadd hx hb dX10_beats_21 ?_
  obtain ⟨q_3, hq_3, h⟩ := ob2 h
  refine kVI (As := [.int ((2 * p1) + 1)]) (rest := []) C0 (kt_X10_octet l G h0 a0 f0 A0 ((2 * p1) + 1) hq_3) gi_V_X10_360_X10_octet (n := 1) rfl (by decide +kernel) rfl ⟨rfl, rfl, Nat.le_of_ble_eq_true rfl, Nat.le_of_ble_eq_true rfl⟩ hPD hS 0 10 rfl rfl rfl [0, 1, 2, 3, 4, 5, 6, 7, 8, 9, 10, 11, 12, 13, 14, 15, 16, 17, 18, 19, 20, 21, 22, 23, 24, 25, 26, 27, 28, 29, 30, 31, 32, 33] [] [0, 1, 2, 3, 4, 5, 6, 7, 8, 9, 10, 11, 12, 13, 14, 15, 16, 17, 18, 19, 20, 21, 22, 23, 24, 25, 26, 27, 28, 29, 30, 31, 32, 33] (wr := ([] : va_W)) (wN := (wX10 G h0 a0 f0 A0)) rfl rfl rfl rfl rfl hl.1 (Nat.le_of_ble_eq_true rfl) dX10_beats_22 (fun H locs hPD hS => ?_)
  refine lv_aload_n hx hb dX10_beats_25 rfl (lv_at hl 1 rfl) ?_
  refine lv_iconst (v := 2) hx hb dX10_beats_26 (by decide) ?_
  refine lv_iload_n hx hb dX10_beats_27 rfl (lv_at hl 3 rfl) ?_
  refine lv_imul hx hb dX10_beats_28 ?_
  refine lv_iconst (v := 1) hx hb dX10_beats_29 (by decide) ?_
  refine lv_iadd hx hb dX10_beats_30 ?_
  obtain ⟨q_4, hq_4, h⟩ := ob2 h
  refine kVI (As := [.int ((2 * p2) + 1)]) (rest := [.int q_3]) C0 (kt_X10_octet l G h0 a0 f0 A0 ((2 * p2) + 1) hq_4) gi_V_X10_360_X10_octet (n := 1) rfl (by decide +kernel) rfl ⟨rfl, rfl, Nat.le_of_ble_eq_true rfl, Nat.le_of_ble_eq_true rfl⟩ hPD hS 0 10 rfl rfl rfl [0, 1, 2, 3, 4, 5, 6, 7, 8, 9, 10, 11, 12, 13, 14, 15, 16, 17, 18, 19, 20, 21, 22, 23, 24, 25, 26, 27, 28, 29, 30, 31, 32, 33] [] [0, 1, 2, 3, 4, 5, 6, 7, 8, 9, 10, 11, 12, 13, 14, 15, 16, 17, 18, 19, 20, 21, 22, 23, 24, 25, 26, 27, 28, 29, 30, 31, 32, 33] (wr := ([] : va_W)) (wN := (wX10 G h0 a0 f0 A0)) rfl rfl rfl rfl rfl hl.1 (Nat.le_of_ble_eq_true rfl) dX10_beats_31 (fun H locs hPD hS => ?_)
  refine lv_isub hx hb dX10_beats_34 ?_
  refine lv_istore (lv' := [(4, .int (q_3 - q_4)), (3, .int (q_1 - q_2)), (0, .ref h0), (1, .int p1), (2, .int p2)]) hx hb dX10_beats_35 hl (by decide) rfl (fun ls hl => ?_)
  refine lv_iload_n hx hb dX10_beats_37 rfl (lv_at hl 1 rfl) ?_
  refine lv_if_lt (tgt := 57) hx hb dX10_beats_38 (by decide) (fun cc1 => ?_) (fun cc1 => ?_)
  · have h := (if_pos cc1).symm.trans h
    refine lv_iconst (v := 0) hx hb dX10_beats_57 (by decide) ?_
    obtain rfl := Option.some.inj h
    exact eZ C0 hPD.1 hPD.2 hS rfl rfl dX10_beats_58
  · have h := (if_neg cc1).symm.trans h
    refine lv_iload hx hb dX10_beats_41 (lv_at hl 0 rfl) ?_
    refine lv_if_lt (tgt := 57) hx hb dX10_beats_43 (by decide) (fun cc1 => ?_) (fun cc1 => ?_)
    · have h := (if_pos cc1).symm.trans h
      refine lv_iconst (v := 0) hx hb dX10_beats_57 (by decide) ?_
      obtain rfl := Option.some.inj h
      exact eZ C0 hPD.1 hPD.2 hS rfl rfl dX10_beats_58
    · have h := (if_neg cc1).symm.trans h
      refine lv_iload_n hx hb dX10_beats_46 rfl (lv_at hl 1 rfl) ?_
      refine lv_iload hx hb dX10_beats_47 (lv_at hl 0 rfl) ?_
      refine lv_iadd hx hb dX10_beats_49 ?_
      refine lv_if_le (tgt := 57) hx hb dX10_beats_50 (by decide) (fun cc1 => ?_) (fun cc1 => ?_)
      · have h := (if_pos cc1).symm.trans h
        refine lv_iconst (v := 0) hx hb dX10_beats_57 (by decide) ?_
        obtain rfl := Option.some.inj h
        exact eZ C0 hPD.1 hPD.2 hS rfl rfl dX10_beats_58
      · have h := (if_neg cc1).symm.trans h
        refine lv_iconst (v := 1) hx hb dX10_beats_53 (by decide) ?_
        refine lv_goto (tgt := 58) hx hb dX10_beats_54 (by decide) ?_
        obtain rfl := Option.some.inj h
        exact eZ C0 hPD.1 hPD.2 hS rfl rfl dX10_beats_58
end WALK
