section WALK
variable {p : Program} {l : Launch} {e : Env} {s : State} {m : MethodId} {args : Array Value} {below : List Frame} {meth : Method} {c : Code} {G : Gp} {DA : Nat → Prop}
set_option maxRecDepth 100000 in
set_option maxHeartbeats 4000000 in
theorem ww_f10_temptationOf_l4  (C0 : Cx cX10_temptationOf 4 (some .int) RX10 p s m args meth c G DA) {h0 : Nat} {a0 : Nat → Nat} {f0 : Nat → Int32} {A0 : Nat → Nat → Int32} {p1 : Int32}   {res : Int32}  : ∀ (n : Nat) (l2 : Int32) (l3 : Int32), f10_temptationOf_l4 f0 A0 p1  n l2 l3 = some res → ∀ (H : Heap) (locs : List Loc) (ls : Array Slot), WD G DA (wX10 G h0 a0 f0 A0) H → va_S DA s.heap H locs → lv_has ls 4 [(0, .ref h0), (1, .int p1), (2, .int l2), (3, .int l3)] → W p l e rmX10_temptationOf s m args below meth c H locs 0 0 (MQ below (QI G DA res (wX10 G h0 a0 f0 A0)) args s 0 0 DA) (F0 m 4 ls []) := by
  intro n
  induction n with
  | zero => intro l2 l3 h; cases h
  | succ n ih => intro l2 l3 h; exact ww_f10_temptationOf_b4 C0  ih l2 l3 h
set_option maxRecDepth 100000 in
set_option maxHeartbeats 4000000 in
theorem kt_X10_temptationOf (l : Launch) (G : Gp) (h0 : Nat) (a0 : Nat → Nat) (f0 : Nat → Int32) (A0 : Nat → Nat → Int32) (p1 : Int32) : ∀ {r : Int32}, f10_temptationOf f0 A0 p1 = some r → CtrI l yX10_temptationOf cX10_temptationOf 4 (some .int) rmX10_temptationOf G [.ref h0, .int p1] (wX10 G h0 a0 f0 A0) r (wX10 G h0 a0 f0 A0) := by
  intro res h
  refine ctrI_of (cc := cX10_temptationOf) (maxL := 4) (ret := (some .int)) (by decide +kernel) rfl (Nat.le_of_ble_eq_true rfl) (fun p e s m below meth c DA C0 hP hD ls hl => ?_)
  have hPD : WD G DA (wX10 G h0 a0 f0 A0) s.heap := ⟨hP, hD⟩
  have hS : va_S DA s.heap s.heap [] := va_S.rf
  have hl : lv_has ls 4 [(0, .ref h0), (1, .int p1)] := hl
  obtain ⟨hx, hb, hml, hown, hts⟩ := C0.1
  have hK := C0.2.2.2.1
  unfold f10_temptationOf at h
  refine lv_iconst (v := 0) hx hb dX10_temptationOf_0 (by decide) ?_
  refine lv_istore_n (lv' := [(2, .int 0), (0, .ref h0), (1, .int p1)]) hx hb dX10_temptationOf_1 rfl hl (by decide) rfl (fun ls hl => ?_)
  refine lv_iconst (v := 0) hx hb dX10_temptationOf_2 (by decide) ?_
  refine lv_istore_n (lv' := [(3, .int 0), (2, .int 0), (0, .ref h0), (1, .int p1)]) hx hb dX10_temptationOf_3 rfl hl (by decide) rfl (fun ls hl => ?_)
  exact ww_f10_temptationOf_l4 C0 NF 0 0 h _ _ _ hPD hS (lv_sub hl [2, 3, 1, 0] rfl)
abbrev rmX10_isBetter : Room := { frames := 2, cells := 0, slots := 0, locals := 44 }
set_option maxRecDepth 100000 in
set_option maxHeartbeats 4000000 in
theorem kt_X10_isBetter (l : Launch) (G : Gp) (h0 : Nat) (a0 : Nat → Nat) (f0 : Nat → Int32) (A0 : Nat → Nat → Int32) (p1 : Int32) (p2 : Int32) : ∀ {r : Int32}, f10_isBetter f0 A0 p1 p2 = some r → CtrI l yX10_isBetter cX10_isBetter 5 (some .boolean) rmX10_isBetter G [.ref h0, .int p1, .int p2] (wX10 G h0 a0 f0 A0) r (wX10 G h0 a0 f0 A0) := by
  intro res h
  refine ctrI_of (cc := cX10_isBetter) (maxL := 5) (ret := (some .boolean)) (by decide +kernel) rfl (Nat.le_of_ble_eq_true rfl) (fun p e s m below meth c DA C0 hP hD ls hl => ?_)
  have hPD : WD G DA (wX10 G h0 a0 f0 A0) s.heap := ⟨hP, hD⟩
  have hS : va_S DA s.heap s.heap [] := va_S.rf
  have hl : lv_has ls 5 [(0, .ref h0), (1, .int p1), (2, .int p2)] := hl
  obtain ⟨hx, hb, hml, hown, hts⟩ := C0.1
  have hK := C0.2.2.2.1
  unfold f10_isBetter at h
  refine lv_aload_n hx hb dX10_isBetter_0 rfl (lv_at hl 0 rfl) ?_
  refine lv_iload_n hx hb dX10_isBetter_1 rfl (lv_at hl 1 rfl) ?_
  obtain ⟨q_1, hq_1, h⟩ := ob2 h
  refine kVI (As := [.int p1]) (rest := []) C0 (kt_X10_temptationOf l G h0 a0 f0 A0 p1 hq_1) gi_V_X10_341_X10_temptationOf (n := 1) rfl (by decide +kernel) rfl ⟨rfl, rfl, Nat.le_of_ble_eq_true rfl, Nat.le_of_ble_eq_true rfl⟩ hPD hS 0 10 rfl rfl rfl [0, 1, 2, 3, 4, 5, 6, 7, 8, 9, 10, 11, 12, 13, 14, 15, 16, 17, 18, 19, 20, 21, 22, 23, 24, 25, 26, 27, 28, 29, 30, 31, 32, 33] [] [0, 1, 2, 3, 4, 5, 6, 7, 8, 9, 10, 11, 12, 13, 14, 15, 16, 17, 18, 19, 20, 21, 22, 23, 24, 25, 26, 27, 28, 29, 30, 31, 32, 33] (wr := ([] : va_W)) (wN := (wX10 G h0 a0 f0 A0)) rfl rfl rfl rfl rfl hl.1 (Nat.le_of_ble_eq_true rfl) dX10_isBetter_2 (fun H locs hPD hS => ?_)
  refine lv_istore_n (lv' := [(3, .int q_1), (0, .ref h0), (1, .int p1), (2, .int p2)]) hx hb dX10_isBetter_5 rfl hl (by decide) rfl (fun ls hl => ?_)
  refine lv_aload_n hx hb dX10_isBetter_6 rfl (lv_at hl 1 rfl) ?_
  refine lv_iload_n hx hb dX10_isBetter_7 rfl (lv_at hl 3 rfl) ?_
  obtain ⟨q_2, hq_2, h⟩ := ob2 h
  refine kVI (As := [.int p2]) (rest := []) C0 (kt_X10_temptationOf l G h0 a0 f0 A0 p2 hq_2) gi_V_X10_341_X10_temptationOf (n := 1) rfl (by decide +kernel) rfl ⟨rfl, rfl, Nat.le_of_ble_eq_true rfl, Nat.le_of_ble_eq_true rfl⟩ hPD hS 0 10 rfl rfl rfl [0, 1, 2, 3, 4, 5, 6, 7, 8, 9, 10, 11, 12, 13, 14, 15, 16, 17, 18, 19, 20, 21, 22, 23, 24, 25, 26, 27, 28, 29, 30, 31, 32, 33] [] [0, 1, 2, 3, 4, 5, 6, 7, 8, 9, 10, 11, 12, 13, 14, 15, 16, 17, 18, 19, 20, 21, 22, 23, 24, 25, 26, 27, 28, 29, 30, 31, 32, 33] (wr := ([] : va_W)) (wN := (wX10 G h0 a0 f0 A0)) rfl rfl rfl rfl rfl hl.1 (Nat.le_of_ble_eq_true rfl) dX10_isBetter_8 (fun H locs hPD hS => ?_)
  refine lv_istore (lv' := [(4, .int q_2), (3, .int q_1), (0, .ref h0), (1, .int p1), (2, .int p2)]) hx hb dX10_isBetter_11 hl (by decide) rfl (fun ls hl => ?_)
  refine lv_iload_n hx hb dX10_isBetter_13 rfl (lv_at hl 1 rfl) ?_
  refine lv_iload hx hb dX10_isBetter_14 (lv_at hl 0 rfl) ?_
  refine lv_icmp_gt (tgt := 30) hx hb dX10_isBetter_16 (by decide) (fun cc1 => ?_) (fun cc1 => ?_)
  · have h := (if_pos cc1).symm.trans h
    refine lv_iconst (v := 1) hx hb dX10_isBetter_30 (by decide) ?_
    refine lv_goto (tgt := 35) hx hb dX10_isBetter_31 (by decide) ?_
    obtain rfl := Option.some.inj h
    exact eZ C0 hPD.1 hPD.2 hS rfl rfl dX10_isBetter_35
  · have h := (if_neg cc1).symm.trans h
    refine lv_iload_n hx hb dX10_isBetter_19 rfl (lv_at hl 1 rfl) ?_
    refine lv_iload hx hb dX10_isBetter_20 (lv_at hl 0 rfl) ?_
    refine lv_icmp_ne (tgt := 34) hx hb dX10_isBetter_22 (by decide) (fun cc1 => ?_) (fun cc1 => ?_)
    · have h := (if_neg cc1).symm.trans h
      refine lv_iconst (v := 0) hx hb dX10_isBetter_34 (by decide) ?_
      obtain rfl := Option.some.inj h
      exact eZ C0 hPD.1 hPD.2 hS rfl rfl dX10_isBetter_35
    · have h := (if_pos cc1).symm.trans h
      refine lv_iload_n hx hb dX10_isBetter_25 rfl (lv_at hl 3 rfl) ?_
      refine lv_iload_n hx hb dX10_isBetter_26 rfl (lv_at hl 4 rfl) ?_
      refine lv_icmp_ge (tgt := 34) hx hb dX10_isBetter_27 (by decide) (fun cc1 => ?_) (fun cc1 => ?_)
      · have h := (if_pos cc1).symm.trans h
        refine lv_iconst (v := 0) hx hb dX10_isBetter_34 (by decide) ?_
        obtain rfl := Option.some.inj h
        exact eZ C0 hPD.1 hPD.2 hS rfl rfl dX10_isBetter_35
      · have h := (if_neg cc1).symm.trans h
        refine lv_iconst (v := 1) hx hb dX10_isBetter_30 (by decide) ?_
        refine lv_goto (tgt := 35) hx hb dX10_isBetter_31 (by decide) ?_
        obtain rfl := Option.some.inj h
        exact eZ C0 hPD.1 hPD.2 hS rfl rfl dX10_isBetter_35
abbrev rmX10_round : Room := { frames := 3, cells := 0, slots := 0, locals := 68 }
set_option maxRecDepth 100000 in
set_option maxHeartbeats 4000000 in
theorem ww_f10_round_b242  (C0 : Cx cX10_round 12 (some .int) RX10 p s m args meth c G DA) {h0 : Nat} {a0 : Nat → Nat} {f0 : Nat → Int32} {p1 : Int32} {p2 : Int32} {p3 : Int32}  {k242 : (Nat → Nat → Int32) → Int32 → Int32 → Int32 → Option (Int32 × (Nat → Nat → Int32))} {res : Int32 × (Nat → Nat → Int32)}  (hk242 : ∀ (A0 : Nat → Nat → Int32) (l5 : Int32) (l6 : Int32) (l7 : Int32), k242 A0 l5 l6 l7 = some res → ∀ (H : Heap) (locs : List Loc) (ls : Array Slot), WD G DA (wX10 G h0 a0 f0 A0) H → va_S DA s.heap H locs → lv_has ls 12 [(0, .ref h0), (1, .int p1), (2, .int p2), (3, .int p3), (5, .int l5), (6, .int l6), (7, .int l7)] → W p l e rmX10_round s m args below meth c H locs 0 0 (MQ below (QI G DA res.1 (wX10 G h0 a0 f0 res.2)) args s 0 0 DA) (F0 m 242 ls [])) : ∀ (A0 : Nat → Nat → Int32) (l5 : Int32) (l6 : Int32) (l7 : Int32), f10_round_b242 f0 p1 p2 p3  k242 A0 l5 l6 l7 = some res → ∀ (H : Heap) (locs : List Loc) (ls : Array Slot), WD G DA (wX10 G h0 a0 f0 A0) H → va_S DA s.heap H locs → lv_has ls 12 [(0, .ref h0), (1, .int p1), (2, .int p2), (3, .int p3), (5, .int l5), (6, .int l6), (7, .int l7)] → W p l e rmX10_round s m args below meth c H locs 0 0 (MQ below (QI G DA res.1 (wX10 G h0 a0 f0 res.2)) args s 0 0 DA) (F0 m 242 ls []) := by
  obtain ⟨hx, hb, hml, hown, hts⟩ := C0.1
  have hK := C0.2.2.2.1
  intro A0 l5 l6 l7 h _ _ _ hPD hS hl
  unfold f10_round_b242 at h
  refine lv_iload hx hb dX10_round_242 (lv_at hl 6 rfl) ?_
  refine lv_iload hx hb dX10_round_244 (lv_at hl 4 rfl) ?_
  refine lv_icmp_ge (tgt := 268) hx hb dX10_round_246 (by decide) (fun cc1 => ?_) (fun cc1 => ?_)
  · have h := (if_pos cc1).symm.trans h
    refine lv_iload_n hx hb dX10_round_268 rfl (lv_at hl 3 rfl) ?_
    refine lv_if_ne (tgt := 281) hx hb dX10_round_269 (by decide) (fun cc1 => ?_) (fun cc1 => ?_)
    · have h := (if_neg cc1).symm.trans h
      refine lv_iload hx hb dX10_round_281 (lv_at hl 5 rfl) ?_
      obtain rfl := Option.some.inj h
      exact eI C0 hPD.1 hPD.2 hS rfl dX10_round_283
    · have h := (if_pos cc1).symm.trans h
      refine lv_aload_n hx hb dX10_round_272 rfl (lv_at hl 0 rfl) ?_
      refine lv_iload hx hb dX10_round_273 (lv_at hl 5 rfl) ?_
      obtain ⟨q_4, hq_4, h⟩ := ob2 h
      refine kVI (As := [.int l6]) (rest := []) C0 (kt_X10_temptationOf l G h0 a0 f0 A0 l6 hq_4) gi_V_X10_341_X10_temptationOf (n := 1) rfl (by decide +kernel) rfl ⟨rfl, rfl, Nat.le_of_ble_eq_true rfl, Nat.le_of_ble_eq_true rfl⟩ hPD hS 0 10 rfl rfl rfl [0, 1, 2, 3, 4, 5, 6, 7, 8, 9, 10, 11, 12, 13, 14, 15, 16, 17, 18, 19, 20, 21, 22, 23, 24, 25, 26, 27, 28, 29, 30, 31, 32, 33] [] [0, 1, 2, 3, 4, 5, 6, 7, 8, 9, 10, 11, 12, 13, 14, 15, 16, 17, 18, 19, 20, 21, 22, 23, 24, 25, 26, 27, 28, 29, 30, 31, 32, 33] (wr := ([] : va_W)) (wN := (wX10 G h0 a0 f0 A0)) rfl rfl rfl rfl rfl hl.1 (Nat.le_of_ble_eq_true rfl) dX10_round_275 (fun H locs hPD hS => ?_)
      refine lv_goto (tgt := 283) hx hb dX10_round_278 (by decide) ?_
      obtain rfl := Option.some.inj h
      exact eI C0 hPD.1 hPD.2 hS rfl dX10_round_283
  · have h := (if_neg cc1).symm.trans h
    refine lv_aload_n hx hb dX10_round_249 rfl (lv_at hl 0 rfl) ?_
    refine va_get (D := G.1) (ci := 10) (v := .ref (a0 43)) (C := RX10) (T := TX10) (N := 52) hx hb hts inlX10 hown hK hPD.1 0 rfl rfl 43 (by decide) (hts _ gw_778) (fun _ h9 => h9) rfl dX10_round_250 ?_
    refine lv_aload_n hx hb dX10_round_253 rfl (lv_at hl 0 rfl) ?_
    refine va_get (D := G.1) (ci := 10) (v := .ref (a0 44)) (C := RX10) (T := TX10) (N := 52) hx hb hts inlX10 hown hK hPD.1 0 rfl rfl 44 (by decide) (hts _ gw_777) (fun _ h9 => h9) rfl dX10_round_254 ?_
    refine lv_iload hx hb dX10_round_257 (lv_at hl 6 rfl) ?_
    obtain ⟨hi_5, h⟩ := ob h
    refine va_iald hx hb hK hPD.1 27 1 rfl rfl hi_5 dX10_round_259 ?_
    refine lv_iconst (v := 0) hx hb dX10_round_260 (by decide) ?_
    obtain ⟨hi_6, h⟩ := ob h
    refine va_bast hx hb hK hPD.1 hPD.2 hS 26 0 rfl rfl hi_6 dX10_round_261 (fun H locs hP hD hS => ?_)
    obtain ⟨A0_7, eA0_7, h⟩ := lvl h
    have hPD : WD G DA (wX10 G h0 a0 f0 A0_7) H := by rw [eA0_7]; exact ⟨hP, hD⟩
    clear eA0_7 hP hD
    refine lv_iinc (v := l7 + 1) (lv' := [(7, .int (l7 + 1)), (0, .ref h0), (1, .int p1), (2, .int p2), (3, .int p3), (5, .int l5), (6, .int l6)]) hx hb dX10_round_262 hl (k := 6) rfl rfl (by decide) rfl (fun ls hl => ?_)
    refine lv_goto (tgt := 242) hx hb dX10_round_265 (by decide) ?_
    exact hk242 A0_7 l5 l6 (l7 + 1) h _ _ _ hPD hS (lv_sub hl [1, 2, 3, 4, 5, 6, 0] rfl)
set_option maxRecDepth 100000 in
set_option maxHeartbeats 4000000 in
theorem ww_f10_round_l242  (C0 : Cx cX10_round 12 (some .int) RX10 p s m args meth c G DA) {h0 : Nat} {a0 : Nat → Nat} {f0 : Nat → Int32} {p1 : Int32} {p2 : Int32} {p3 : Int32}   {res : Int32 × (Nat → Nat → Int32)}  : ∀ (n : Nat) (A0 : Nat → Nat → Int32) (l5 : Int32) (l6 : Int32) (l7 : Int32), f10_round_l242 f0 p1 p2 p3  n A0 l5 l6 l7 = some res → ∀ (H : Heap) (locs : List Loc) (ls : Array Slot), WD G DA (wX10 G h0 a0 f0 A0) H → va_S DA s.heap H locs → lv_has ls 12 [(0, .ref h0), (1, .int p1), (2, .int p2), (3, .int p3), (5, .int l5), (6, .int l6), (7, .int l7)] → W p l e rmX10_round s m args below meth c H locs 0 0 (MQ below (QI G DA res.1 (wX10 G h0 a0 f0 res.2)) args s 0 0 DA) (F0 m 242 ls []) := by
  intro n
  induction n with
  | zero => intro A0 l5 l6 l7 h; cases h
  | succ n ih => intro A0 l5 l6 l7 h; exact ww_f10_round_b242 C0  ih A0 l5 l6 l7 h
set_option maxRecDepth 100000 in
set_option maxHeartbeats 4000000 in
theorem ww_f10_round_b140  (C0 : Cx cX10_round 12 (some .int) RX10 p s m args meth c G DA) {h0 : Nat} {a0 : Nat → Nat} {f0 : Nat → Int32} {p1 : Int32} {p2 : Int32} {p3 : Int32}  {k66 : (Nat → Nat → Int32) → Int32 → Int32 → Int32 → Option (Int32 × (Nat → Nat → Int32))} {k140 : (Nat → Nat → Int32) → Int32 → Int32 → Int32 → Int32 → Int32 → Int32 → Option (Int32 × (Nat → Nat → Int32))} {res : Int32 × (Nat → Nat → Int32)} (hk66 : ∀ (A0 : Nat → Nat → Int32) (l5 : Int32) (l6 : Int32) (l7 : Int32), k66 A0 l5 l6 l7 = some res → ∀ (H : Heap) (locs : List Loc) (ls : Array Slot), WD G DA (wX10 G h0 a0 f0 A0) H → va_S DA s.heap H locs → lv_has ls 12 [(0, .ref h0), (1, .int p1), (2, .int p2), (3, .int p3), (5, .int l5), (6, .int l6), (7, .int l7)] → W p l e rmX10_round s m args below meth c H locs 0 0 (MQ below (QI G DA res.1 (wX10 G h0 a0 f0 res.2)) args s 0 0 DA) (F0 m 66 ls [])) (hk140 : ∀ (A0 : Nat → Nat → Int32) (l5 : Int32) (l6 : Int32) (l7 : Int32) (l8 : Int32) (l9 : Int32) (l10 : Int32), k140 A0 l5 l6 l7 l8 l9 l10 = some res → ∀ (H : Heap) (locs : List Loc) (ls : Array Slot), WD G DA (wX10 G h0 a0 f0 A0) H → va_S DA s.heap H locs → lv_has ls 12 [(0, .ref h0), (1, .int p1), (2, .int p2), (3, .int p3), (5, .int l5), (6, .int l6), (7, .int l7), (8, .int l8), (9, .int l9), (10, .int l10)] → W p l e rmX10_round s m args below meth c H locs 0 0 (MQ below (QI G DA res.1 (wX10 G h0 a0 f0 res.2)) args s 0 0 DA) (F0 m 140 ls [])) : ∀ (A0 : Nat → Nat → Int32) (l5 : Int32) (l6 : Int32) (l7 : Int32) (l8 : Int32) (l9 : Int32) (l10 : Int32), f10_round_b140 f0 p1 p2 p3 k66 k140 A0 l5 l6 l7 l8 l9 l10 = some res → ∀ (H : Heap) (locs : List Loc) (ls : Array Slot), WD G DA (wX10 G h0 a0 f0 A0) H → va_S DA s.heap H locs → lv_has ls 12 [(0, .ref h0), (1, .int p1), (2, .int p2), (3, .int p3), (5, .int l5), (6, .int l6), (7, .int l7), (8, .int l8), (9, .int l9), (10, .int l10)] → W p l e rmX10_round s m args below meth c H locs 0 0 (MQ below (QI G DA res.1 (wX10 G h0 a0 f0 res.2)) args s 0 0 DA) (F0 m 140 ls []) := by
  obtain ⟨hx, hb, hml, hown, hts⟩ := C0.1
  have hK := C0.2.2.2.1
  intro A0 l5 l6 l7 l8 l9 l10 h _ _ _ hPD hS hl
  unfold f10_round_b140 at h
  refine lv_iload hx hb dX10_round_140 (lv_at hl 9 rfl) ?_
  refine lv_bipush (v := 16) hx hb dX10_round_142 (by decide) ?_
  refine lv_icmp_ge (tgt := 233) hx hb dX10_round_144 (by decide) (fun cc1 => ?_) (fun cc1 => ?_)
  · have h := (if_pos cc1).symm.trans h
    refine lv_iinc (v := l7 + 1) (lv' := [(7, .int (l7 + 1)), (0, .ref h0), (1, .int p1), (2, .int p2), (3, .int p3), (5, .int l5), (6, .int l6), (8, .int l8), (9, .int l9), (10, .int l10)]) hx hb dX10_round_233 hl (k := 6) rfl rfl (by decide) rfl (fun ls hl => ?_)
    refine lv_goto (tgt := 66) hx hb dX10_round_236 (by decide) ?_
    exact hk66 A0 l5 l6 (l7 + 1) h _ _ _ hPD hS (lv_sub hl [1, 2, 3, 4, 5, 6, 0] rfl)
  · have h := (if_neg cc1).symm.trans h
    refine lv_bipush (v := 16) hx hb dX10_round_147 (by decide) ?_
    refine lv_iload hx hb dX10_round_149 (lv_at hl 7 rfl) ?_
    refine lv_iconst (v := 1) hx hb dX10_round_151 (by decide) ?_
    refine lv_iload hx hb dX10_round_152 (lv_at hl 9 rfl) ?_
    refine lv_ishl hx hb dX10_round_154 ?_
    refine lv_ior hx hb dX10_round_155 ?_
    refine lv_imul hx hb dX10_round_156 ?_
    refine lv_iload hx hb dX10_round_157 (lv_at hl 9 rfl) ?_
    refine lv_iadd hx hb dX10_round_159 ?_
    refine lv_istore (lv' := [(11, .int ((16 * (l8 ||| (shl 1 l10))) + l10)), (0, .ref h0), (1, .int p1), (2, .int p2), (3, .int p3), (5, .int l5), (6, .int l6), (7, .int l7), (8, .int l8), (9, .int l9), (10, .int l10)]) hx hb dX10_round_160 hl (by decide) rfl (fun ls hl => ?_)
    refine lv_aload_n hx hb dX10_round_162 rfl (lv_at hl 1 rfl) ?_
    refine va_get (D := G.1) (ci := 10) (v := .ref (a0 3)) (C := RX10) (T := TX10) (N := 52) hx hb hts inlX10 hown hK hPD.1 0 rfl rfl 3 (by decide) (hts _ gw_663) (fun _ h9 => h9) rfl dX10_round_163 ?_
    refine lv_iload hx hb dX10_round_166 (lv_at hl 9 rfl) ?_
    obtain ⟨hi_12, h⟩ := ob h
    refine va_iald hx hb hK hPD.1 4 1 rfl rfl hi_12 dX10_round_168 ?_
    refine lv_iload hx hb dX10_round_169 (lv_at hl 10 rfl) ?_
    refine kSI (As := [.int (gx (A0 3) l9), .int l10]) (rest := []) C0 (kt_X10_has l G  (gx (A0 3) l9) l10) gi_S_X10_120_X10_has (n := 2) rfl (by decide +kernel) ⟨rfl, rfl, Nat.le_of_ble_eq_true rfl, Nat.le_of_ble_eq_true rfl⟩ hPD hS [] [0, 1, 2, 3, 4, 5, 6, 7, 8, 9, 10, 11, 12, 13, 14, 15, 16, 17, 18, 19, 20, 21, 22, 23, 24, 25, 26, 27, 28, 29, 30, 31, 32, 33] [0, 1, 2, 3, 4, 5, 6, 7, 8, 9, 10, 11, 12, 13, 14, 15, 16, 17, 18, 19, 20, 21, 22, 23, 24, 25, 26, 27, 28, 29, 30, 31, 32, 33] (wr := (wX10 G h0 a0 f0 A0)) (wN := (wX10 G h0 a0 f0 A0)) rfl rfl rfl rfl rfl hl.1 (Nat.le_of_ble_eq_true rfl) dX10_round_171 (fun H locs hPD hS => ?_)
    refine lv_if_eq (tgt := 227) hx hb dX10_round_174 (by decide) (fun cc1 => ?_) (fun cc1 => ?_)
    · have h := (if_pos cc1).symm.trans h
      refine lv_iinc (v := l10 + 1) (lv' := [(10, .int (l10 + 1)), (11, .int ((16 * (l8 ||| (shl 1 l10))) + l10)), (0, .ref h0), (1, .int p1), (2, .int p2), (3, .int p3), (5, .int l5), (6, .int l6), (7, .int l7), (8, .int l8), (9, .int l9)]) hx hb dX10_round_227 hl (k := 10) rfl rfl (by decide) rfl (fun ls hl => ?_)
      refine lv_goto (tgt := 140) hx hb dX10_round_230 (by decide) ?_
      exact hk140 A0 l5 l6 l7 l8 l9 (l10 + 1) h _ _ _ hPD hS (lv_sub hl [2, 3, 4, 5, 6, 7, 8, 9, 10, 0] rfl)
    · have h := (if_neg cc1).symm.trans h
      refine lv_aload_n hx hb dX10_round_177 rfl (lv_at hl 1 rfl) ?_
      refine va_get (D := G.1) (ci := 10) (v := .ref (a0 43)) (C := RX10) (T := TX10) (N := 52) hx hb hts inlX10 hown hK hPD.1 0 rfl rfl 43 (by decide) (hts _ gw_778) (fun _ h9 => h9) rfl dX10_round_178 ?_
      refine lv_iload hx hb dX10_round_181 (lv_at hl 0 rfl) ?_
      obtain ⟨hi_13, h⟩ := ob h
      refine va_bald hx hb hK hPD.1 26 0 rfl rfl hi_13 dX10_round_183 ?_
      refine lv_if_eq (tgt := 190) hx hb dX10_round_184 (by decide) (fun cc1 => ?_) (fun cc1 => ?_)
      · have h := (if_pos cc1).symm.trans h
        refine lv_aload_n hx hb dX10_round_190 rfl (lv_at hl 1 rfl) ?_
        refine va_get (D := G.1) (ci := 10) (v := .ref (a0 43)) (C := RX10) (T := TX10) (N := 52) hx hb hts inlX10 hown hK hPD.1 0 rfl rfl 43 (by decide) (hts _ gw_778) (fun _ h9 => h9) rfl dX10_round_191 ?_
        refine lv_iload hx hb dX10_round_194 (lv_at hl 0 rfl) ?_
        refine lv_aload_n hx hb dX10_round_196 rfl (lv_at hl 1 rfl) ?_
        refine va_get (D := G.1) (ci := 10) (v := .ref (a0 43)) (C := RX10) (T := TX10) (N := 52) hx hb hts inlX10 hown hK hPD.1 0 rfl rfl 43 (by decide) (hts _ gw_778) (fun _ h9 => h9) rfl dX10_round_197 ?_
        refine lv_aload_n hx hb dX10_round_200 rfl (lv_at hl 1 rfl) ?_
        refine va_get (D := G.1) (ci := 10) (v := .ref (a0 44)) (C := RX10) (T := TX10) (N := 52) hx hb hts inlX10 hown hK hPD.1 0 rfl rfl 44 (by decide) (hts _ gw_777) (fun _ h9 => h9) rfl dX10_round_201 ?_
        refine lv_iload hx hb dX10_round_204 (lv_at hl 7 rfl) ?_
        obtain ⟨hi_14, h⟩ := ob h
        refine va_iald hx hb hK hPD.1 27 1 rfl rfl hi_14 dX10_round_206 ?_
        obtain ⟨hi_15, h⟩ := ob h
        refine va_bald hx hb hK hPD.1 26 0 rfl rfl hi_15 dX10_round_207 ?_
        refine lv_iconst (v := 1) hx hb dX10_round_208 (by decide) ?_
        refine lv_iadd hx hb dX10_round_209 ?_
        refine lv_i2b (v := i2b ((gx (A0 43) (gx (A0 44) l7)) + 1)) hx hb dX10_round_210 rfl ?_
        obtain ⟨hi_16, h⟩ := ob h
        refine va_bast hx hb hK hPD.1 hPD.2 hS 26 0 rfl rfl hi_16 dX10_round_211 (fun H locs hP hD hS => ?_)
        obtain ⟨A0_17, eA0_17, h⟩ := lvl h
        have hPD : WD G DA (wX10 G h0 a0 f0 A0_17) H := by rw [eA0_17]; exact ⟨hP, hD⟩
        clear eA0_17 hP hD
        refine lv_aload_n hx hb dX10_round_212 rfl (lv_at hl 1 rfl) ?_
        refine va_get (D := G.1) (ci := 10) (v := .ref (a0 44)) (C := RX10) (T := TX10) (N := 52) hx hb hts inlX10 hown hK hPD.1 0 rfl rfl 44 (by decide) (hts _ gw_777) (fun _ h9 => h9) rfl dX10_round_213 ?_
        refine lv_iload hx hb dX10_round_216 (lv_at hl 5 rfl) ?_
        refine lv_iload hx hb dX10_round_218 (lv_at hl 0 rfl) ?_
        obtain ⟨hi_18, h⟩ := ob h
        refine va_iast hx hb hK hPD.1 hPD.2 hS 27 1 rfl rfl hi_18 dX10_round_220 (fun H locs hP hD hS => ?_)
        obtain ⟨A0_19, eA0_19, h⟩ := lvl h
        have hPD : WD G DA (wX10 G h0 a0 f0 A0_19) H := by rw [eA0_19]; exact ⟨hP, hD⟩
        clear eA0_19 hP hD
        refine lv_iload hx hb dX10_round_221 (lv_at hl 5 rfl) ?_
        refine lv_iconst (v := 1) hx hb dX10_round_223 (by decide) ?_
        refine lv_iadd hx hb dX10_round_224 ?_
        refine lv_istore (lv' := [(5, .int (l5 + 1)), (11, .int ((16 * (l8 ||| (shl 1 l10))) + l10)), (0, .ref h0), (1, .int p1), (2, .int p2), (3, .int p3), (6, .int l6), (7, .int l7), (8, .int l8), (9, .int l9), (10, .int l10)]) hx hb dX10_round_225 hl (by decide) rfl (fun ls hl => ?_)
        refine lv_iinc (v := l10 + 1) (lv' := [(10, .int (l10 + 1)), (5, .int (l5 + 1)), (11, .int ((16 * (l8 ||| (shl 1 l10))) + l10)), (0, .ref h0), (1, .int p1), (2, .int p2), (3, .int p3), (6, .int l6), (7, .int l7), (8, .int l8), (9, .int l9)]) hx hb dX10_round_227 hl (k := 10) rfl rfl (by decide) rfl (fun ls hl => ?_)
        refine lv_goto (tgt := 140) hx hb dX10_round_230 (by decide) ?_
        exact hk140 A0_19 (l5 + 1) l6 l7 l8 l9 (l10 + 1) h _ _ _ hPD hS (lv_sub hl [3, 4, 5, 6, 1, 7, 8, 9, 10, 0] rfl)
      · have h := (if_neg cc1).symm.trans h
        refine lv_goto (tgt := 227) hx hb dX10_round_187 (by decide) ?_
        refine lv_iinc (v := l10 + 1) (lv' := [(10, .int (l10 + 1)), (11, .int ((16 * (l8 ||| (shl 1 l10))) + l10)), (0, .ref h0), (1, .int p1), (2, .int p2), (3, .int p3), (5, .int l5), (6, .int l6), (7, .int l7), (8, .int l8), (9, .int l9)]) hx hb dX10_round_227 hl (k := 10) rfl rfl (by decide) rfl (fun ls hl => ?_)
        refine lv_goto (tgt := 140) hx hb dX10_round_230 (by decide) ?_
        exact hk140 A0 l5 l6 l7 l8 l9 (l10 + 1) h _ _ _ hPD hS (lv_sub hl [2, 3, 4, 5, 6, 7, 8, 9, 10, 0] rfl)
set_option maxRecDepth 100000 in
set_option maxHeartbeats 4000000 in
theorem ww_f10_round_l140  (C0 : Cx cX10_round 12 (some .int) RX10 p s m args meth c G DA) {h0 : Nat} {a0 : Nat → Nat} {f0 : Nat → Int32} {p1 : Int32} {p2 : Int32} {p3 : Int32}  {k66 : (Nat → Nat → Int32) → Int32 → Int32 → Int32 → Option (Int32 × (Nat → Nat → Int32))} {res : Int32 × (Nat → Nat → Int32)} (hk66 : ∀ (A0 : Nat → Nat → Int32) (l5 : Int32) (l6 : Int32) (l7 : Int32), k66 A0 l5 l6 l7 = some res → ∀ (H : Heap) (locs : List Loc) (ls : Array Slot), WD G DA (wX10 G h0 a0 f0 A0) H → va_S DA s.heap H locs → lv_has ls 12 [(0, .ref h0), (1, .int p1), (2, .int p2), (3, .int p3), (5, .int l5), (6, .int l6), (7, .int l7)] → W p l e rmX10_round s m args below meth c H locs 0 0 (MQ below (QI G DA res.1 (wX10 G h0 a0 f0 res.2)) args s 0 0 DA) (F0 m 66 ls [])) : ∀ (n : Nat) (A0 : Nat → Nat → Int32) (l5 : Int32) (l6 : Int32) (l7 : Int32) (l8 : Int32) (l9 : Int32) (l10 : Int32), f10_round_l140 f0 p1 p2 p3 k66 n A0 l5 l6 l7 l8 l9 l10 = some res → ∀ (H : Heap) (locs : List Loc) (ls : Array Slot), WD G DA (wX10 G h0 a0 f0 A0) H → va_S DA s.heap H locs → lv_has ls 12 [(0, .ref h0), (1, .int p1), (2, .int p2), (3, .int p3), (5, .int l5), (6, .int l6), (7, .int l7), (8, .int l8), (9, .int l9), (10, .int l10)] → W p l e rmX10_round s m args below meth c H locs 0 0 (MQ below (QI G DA res.1 (wX10 G h0 a0 f0 res.2)) args s 0 0 DA) (F0 m 140 ls []) := by
  intro n
  induction n with
  | zero => intro A0 l5 l6 l7 l8 l9 l10 h; cases h
  | succ n ih => intro A0 l5 l6 l7 l8 l9 l10 h; exact ww_f10_round_b140 C0 hk66 ih A0 l5 l6 l7 l8 l9 l10 h
set_option maxRecDepth 100000 in
set_option maxHeartbeats 4000000 in
theorem ww_f10_round_b118  (C0 : Cx cX10_round 12 (some .int) RX10 p s m args meth c G DA) {h0 : Nat} {a0 : Nat → Nat} {f0 : Nat → Int32} {p1 : Int32} {p2 : Int32} {p3 : Int32}  {k66 : (Nat → Nat → Int32) → Int32 → Int32 → Int32 → Option (Int32 × (Nat → Nat → Int32))} {res : Int32 × (Nat → Nat → Int32)} (hk66 : ∀ (A0 : Nat → Nat → Int32) (l5 : Int32) (l6 : Int32) (l7 : Int32), k66 A0 l5 l6 l7 = some res → ∀ (H : Heap) (locs : List Loc) (ls : Array Slot), WD G DA (wX10 G h0 a0 f0 A0) H → va_S DA s.heap H locs → lv_has ls 12 [(0, .ref h0), (1, .int p1), (2, .int p2), (3, .int p3), (5, .int l5), (6, .int l6), (7, .int l7)] → W p l e rmX10_round s m args below meth c H locs 0 0 (MQ below (QI G DA res.1 (wX10 G h0 a0 f0 res.2)) args s 0 0 DA) (F0 m 66 ls [])) : ∀ (A0 : Nat → Nat → Int32) (l5 : Int32) (l6 : Int32) (l7 : Int32) (l8 : Int32) (l9 : Int32), f10_round_b118 f0 p1 p2 p3 k66 A0 l5 l6 l7 l8 l9 = some res → ∀ (H : Heap) (locs : List Loc) (ls : Array Slot), WD G DA (wX10 G h0 a0 f0 A0) H → va_S DA s.heap H locs → lv_has ls 12 [(0, .ref h0), (1, .int p1), (2, .int p2), (3, .int p3), (5, .int l5), (6, .int l6), (7, .int l7), (8, .int l8), (9, .int l9)] → W p l e rmX10_round s m args below meth c H locs 0 0 (MQ below (QI G DA res.1 (wX10 G h0 a0 f0 res.2)) args s 0 0 DA) (F0 m 118 ls []) := by
  obtain ⟨hx, hb, hml, hown, hts⟩ := C0.1
  have hK := C0.2.2.2.1
  intro A0 l5 l6 l7 l8 l9 h _ _ _ hPD hS hl
  unfold f10_round_b118 at h
  refine lv_aload_n hx hb dX10_round_118 rfl (lv_at hl 0 rfl) ?_
  refine va_get (D := G.1) (ci := 10) (v := .ref (a0 43)) (C := RX10) (T := TX10) (N := 52) hx hb hts inlX10 hown hK hPD.1 0 rfl rfl 43 (by decide) (hts _ gw_778) (fun _ h9 => h9) rfl dX10_round_119 ?_
  refine lv_aload_n hx hb dX10_round_122 rfl (lv_at hl 0 rfl) ?_
  refine va_get (D := G.1) (ci := 10) (v := .ref (a0 44)) (C := RX10) (T := TX10) (N := 52) hx hb hts inlX10 hown hK hPD.1 0 rfl rfl 44 (by decide) (hts _ gw_777) (fun _ h9 => h9) rfl dX10_round_123 ?_
  refine lv_iload hx hb dX10_round_126 (lv_at hl 6 rfl) ?_
  obtain ⟨hi_10, h⟩ := ob h
  refine va_iald hx hb hK hPD.1 27 1 rfl rfl hi_10 dX10_round_128 ?_
  obtain ⟨hi_11, h⟩ := ob h
  refine va_bald hx hb hK hPD.1 26 0 rfl rfl hi_11 dX10_round_129 ?_
  refine lv_iload_n hx hb dX10_round_130 rfl (lv_at hl 2 rfl) ?_
  refine lv_icmp_le (tgt := 137) hx hb dX10_round_131 (by decide) (fun cc1 => ?_) (fun cc1 => ?_)
  · have h := (if_pos cc1).symm.trans h
    refine lv_iconst (v := 0) hx hb dX10_round_137 (by decide) ?_
    refine lv_istore (lv' := [(10, .int 0), (0, .ref h0), (1, .int p1), (2, .int p2), (3, .int p3), (5, .int l5), (6, .int l6), (7, .int l7), (8, .int l8), (9, .int l9)]) hx hb dX10_round_138 hl (by decide) rfl (fun ls hl => ?_)
    exact ww_f10_round_l140 C0 hk66 NF A0 l5 l6 l7 l8 l9 0 h _ _ _ hPD hS (lv_sub hl [1, 2, 3, 4, 5, 6, 7, 8, 9, 0] rfl)
  · have h := (if_neg cc1).symm.trans h
    refine lv_goto (tgt := 233) hx hb dX10_round_134 (by decide) ?_
    refine lv_iinc (v := l7 + 1) (lv' := [(7, .int (l7 + 1)), (0, .ref h0), (1, .int p1), (2, .int p2), (3, .int p3), (5, .int l5), (6, .int l6), (8, .int l8), (9, .int l9)]) hx hb dX10_round_233 hl (k := 6) rfl rfl (by decide) rfl (fun ls hl => ?_)
    refine lv_goto (tgt := 66) hx hb dX10_round_236 (by decide) ?_
    exact hk66 A0 l5 l6 (l7 + 1) h _ _ _ hPD hS (lv_sub hl [1, 2, 3, 4, 5, 6, 0] rfl)
set_option maxRecDepth 100000 in
set_option maxHeartbeats 4000000 in
theorem ww_f10_round_b66  (C0 : Cx cX10_round 12 (some .int) RX10 p s m args meth c G DA) {h0 : Nat} {a0 : Nat → Nat} {f0 : Nat → Int32} {p1 : Int32} {p2 : Int32} {p3 : Int32}  {k66 : (Nat → Nat → Int32) → Int32 → Int32 → Int32 → Option (Int32 × (Nat → Nat → Int32))} {res : Int32 × (Nat → Nat → Int32)}  (hk66 : ∀ (A0 : Nat → Nat → Int32) (l5 : Int32) (l6 : Int32) (l7 : Int32), k66 A0 l5 l6 l7 = some res → ∀ (H : Heap) (locs : List Loc) (ls : Array Slot), WD G DA (wX10 G h0 a0 f0 A0) H → va_S DA s.heap H locs → lv_has ls 12 [(0, .ref h0), (1, .int p1), (2, .int p2), (3, .int p3), (5, .int l5), (6, .int l6), (7, .int l7)] → W p l e rmX10_round s m args below meth c H locs 0 0 (MQ below (QI G DA res.1 (wX10 G h0 a0 f0 res.2)) args s 0 0 DA) (F0 m 66 ls [])) : ∀ (A0 : Nat → Nat → Int32) (l5 : Int32) (l6 : Int32) (l7 : Int32), f10_round_b66 f0 p1 p2 p3  k66 A0 l5 l6 l7 = some res → ∀ (H : Heap) (locs : List Loc) (ls : Array Slot), WD G DA (wX10 G h0 a0 f0 A0) H → va_S DA s.heap H locs → lv_has ls 12 [(0, .ref h0), (1, .int p1), (2, .int p2), (3, .int p3), (5, .int l5), (6, .int l6), (7, .int l7)] → W p l e rmX10_round s m args below meth c H locs 0 0 (MQ below (QI G DA res.1 (wX10 G h0 a0 f0 res.2)) args s 0 0 DA) (F0 m 66 ls []) := by
  obtain ⟨hx, hb, hml, hown, hts⟩ := C0.1
  have hK := C0.2.2.2.1
  intro A0 l5 l6 l7 h _ _ _ hPD hS hl
  unfold f10_round_b66 at h
  refine lv_iload hx hb dX10_round_66 (lv_at hl 6 rfl) ?_
  refine lv_iload hx hb dX10_round_68 (lv_at hl 4 rfl) ?_
  refine lv_icmp_ge (tgt := 239) hx hb dX10_round_70 (by decide) (fun cc1 => ?_) (fun cc1 => ?_)
  · have h := (if_pos cc1).symm.trans h
    refine lv_iconst (v := 0) hx hb dX10_round_239 (by decide) ?_
    refine lv_istore (lv' := [(7, .int 0), (0, .ref h0), (1, .int p1), (2, .int p2), (3, .int p3), (5, .int l5), (6, .int l6)]) hx hb dX10_round_240 hl (by decide) rfl (fun ls hl => ?_)
    exact ww_f10_round_l242 C0 NF A0 l5 l6 0 h _ _ _ hPD hS (lv_sub hl [1, 2, 3, 4, 5, 6, 0] rfl)
  · have h := (if_neg cc1).symm.trans h
    refine lv_aload_n hx hb dX10_round_73 rfl (lv_at hl 0 rfl) ?_
    refine va_get (D := G.1) (ci := 10) (v := .ref (a0 44)) (C := RX10) (T := TX10) (N := 52) hx hb hts inlX10 hown hK hPD.1 0 rfl rfl 44 (by decide) (hts _ gw_777) (fun _ h9 => h9) rfl dX10_round_74 ?_
    refine lv_iload hx hb dX10_round_77 (lv_at hl 6 rfl) ?_
    obtain ⟨hi_8, h⟩ := ob h
    refine va_iald hx hb hK hPD.1 27 1 rfl rfl hi_8 dX10_round_79 ?_
    refine lv_bipush (v := 16) hx hb dX10_round_80 (by decide) ?_
    refine lv_idiv hx hb dX10_round_82 (by decide) ?_
    refine lv_istore (lv' := [(8, .int ((gx (A0 44) l7) / 16)), (0, .ref h0), (1, .int p1), (2, .int p2), (3, .int p3), (5, .int l5), (6, .int l6), (7, .int l7)]) hx hb dX10_round_83 hl (by decide) rfl (fun ls hl => ?_)
    refine lv_aload_n hx hb dX10_round_85 rfl (lv_at hl 1 rfl) ?_
    refine va_get (D := G.1) (ci := 10) (v := .ref (a0 44)) (C := RX10) (T := TX10) (N := 52) hx hb hts inlX10 hown hK hPD.1 0 rfl rfl 44 (by decide) (hts _ gw_777) (fun _ h9 => h9) rfl dX10_round_86 ?_
    refine lv_iload hx hb dX10_round_89 (lv_at hl 7 rfl) ?_
    obtain ⟨hi_9, h⟩ := ob h
    refine va_iald hx hb hK hPD.1 27 1 rfl rfl hi_9 dX10_round_91 ?_
    refine lv_bipush (v := 16) hx hb dX10_round_92 (by decide) ?_
    refine lv_irem hx hb dX10_round_94 (by decide) ?_
    refine lv_istore (lv' := [(9, .int (irm (gx (A0 44) l7) 16)), (8, .int ((gx (A0 44) l7) / 16)), (0, .ref h0), (1, .int p1), (2, .int p2), (3, .int p3), (5, .int l5), (6, .int l6), (7, .int l7)]) hx hb dX10_round_95 hl (by decide) rfl (fun ls hl => ?_)
    refine lv_iload hx hb dX10_round_97 (lv_at hl 0 rfl) ?_
    refine lv_iload_n hx hb dX10_round_99 rfl (lv_at hl 3 rfl) ?_
    refine lv_icmp_ne (tgt := 118) hx hb dX10_round_100 (by decide) (fun cc1 => ?_) (fun cc1 => ?_)
    · have h := (if_neg cc1).symm.trans h
      exact ww_f10_round_b118 C0 hk66 A0 l5 l6 l7 ((gx (A0 44) l7) / 16) (irm (gx (A0 44) l7) 16) h _ _ _ hPD hS (lv_sub hl [2, 3, 4, 5, 6, 7, 8, 1, 0] rfl)
    · have h := (if_pos cc1).symm.trans h
      refine lv_aload_n hx hb dX10_round_103 rfl (lv_at hl 2 rfl) ?_
      refine lv_iload hx hb dX10_round_104 (lv_at hl 1 rfl) ?_
      refine lv_iload hx hb dX10_round_106 (lv_at hl 7 rfl) ?_
      obtain ⟨q_20, hq_20, h⟩ := ob2 h
      refine kVI (As := [.int ((gx (A0 44) l7) / 16), .int l6]) (rest := []) C0 (kt_X10_isBetter l G h0 a0 f0 A0 ((gx (A0 44) l7) / 16) l6 hq_20) gi_V_X10_338_X10_isBetter (n := 2) rfl (by decide +kernel) rfl ⟨rfl, rfl, Nat.le_of_ble_eq_true rfl, Nat.le_of_ble_eq_true rfl⟩ hPD hS 0 10 rfl rfl rfl [0, 1, 2, 3, 4, 5, 6, 7, 8, 9, 10, 11, 12, 13, 14, 15, 16, 17, 18, 19, 20, 21, 22, 23, 24, 25, 26, 27, 28, 29, 30, 31, 32, 33] [] [0, 1, 2, 3, 4, 5, 6, 7, 8, 9, 10, 11, 12, 13, 14, 15, 16, 17, 18, 19, 20, 21, 22, 23, 24, 25, 26, 27, 28, 29, 30, 31, 32, 33] (wr := ([] : va_W)) (wN := (wX10 G h0 a0 f0 A0)) rfl rfl rfl rfl rfl hl.1 (Nat.le_of_ble_eq_true rfl) dX10_round_108 (fun H locs hPD hS => ?_)
      refine lv_if_eq (tgt := 118) hx hb dX10_round_111 (by decide) (fun cc1 => ?_) (fun cc1 => ?_)
      · have h := (if_pos cc1).symm.trans h
        exact ww_f10_round_b118 C0 hk66 A0 l5 l6 l7 ((gx (A0 44) l7) / 16) (irm (gx (A0 44) l7) 16) h _ _ _ hPD hS (lv_sub hl [2, 3, 4, 5, 6, 7, 8, 1, 0] rfl)
      · have h := (if_neg cc1).symm.trans h
        refine lv_iload hx hb dX10_round_114 (lv_at hl 1 rfl) ?_
        refine lv_istore (lv' := [(6, .int ((gx (A0 44) l7) / 16)), (9, .int (irm (gx (A0 44) l7) 16)), (8, .int ((gx (A0 44) l7) / 16)), (0, .ref h0), (1, .int p1), (2, .int p2), (3, .int p3), (5, .int l5), (7, .int l7)]) hx hb dX10_round_116 hl (by decide) rfl (fun ls hl => ?_)
        exact ww_f10_round_b118 C0 hk66 A0 l5 ((gx (A0 44) l7) / 16) l7 ((gx (A0 44) l7) / 16) (irm (gx (A0 44) l7) 16) h _ _ _ hPD hS (lv_sub hl [3, 4, 5, 6, 7, 0, 8, 2, 1] rfl)
set_option maxRecDepth 100000 in
set_option maxHeartbeats 4000000 in
theorem ww_f10_round_l66  (C0 : Cx cX10_round 12 (some .int) RX10 p s m args meth c G DA) {h0 : Nat} {a0 : Nat → Nat} {f0 : Nat → Int32} {p1 : Int32} {p2 : Int32} {p3 : Int32}   {res : Int32 × (Nat → Nat → Int32)}  : ∀ (n : Nat) (A0 : Nat → Nat → Int32) (l5 : Int32) (l6 : Int32) (l7 : Int32), f10_round_l66 f0 p1 p2 p3  n A0 l5 l6 l7 = some res → ∀ (H : Heap) (locs : List Loc) (ls : Array Slot), WD G DA (wX10 G h0 a0 f0 A0) H → va_S DA s.heap H locs → lv_has ls 12 [(0, .ref h0), (1, .int p1), (2, .int p2), (3, .int p3), (5, .int l5), (6, .int l6), (7, .int l7)] → W p l e rmX10_round s m args below meth c H locs 0 0 (MQ below (QI G DA res.1 (wX10 G h0 a0 f0 res.2)) args s 0 0 DA) (F0 m 66 ls []) := by
  intro n
  induction n with
  | zero => intro A0 l5 l6 l7 h; cases h
  | succ n ih => intro A0 l5 l6 l7 h; exact ww_f10_round_b66 C0  ih A0 l5 l6 l7 h
set_option maxRecDepth 100000 in
set_option maxHeartbeats 4000000 in
theorem kt_X10_round (l : Launch) (G : Gp) (h0 : Nat) (a0 : Nat → Nat) (f0 : Nat → Int32) (A0 : Nat → Nat → Int32) (p1 : Int32) (p2 : Int32) (p3 : Int32) : ∀ {r : Int32 × (Nat → Nat → Int32)}, f10_round f0 A0 p1 p2 p3 = some r → CtrI l yX10_round cX10_round 12 (some .int) rmX10_round G [.ref h0, .int p1, .int p2, .int p3] (wX10 G h0 a0 f0 A0) r.1 (wX10 G h0 a0 f0 r.2) := by
  intro res h
  refine ctrI_of (cc := cX10_round) (maxL := 12) (ret := (some .int)) (by decide +kernel) rfl (Nat.le_of_ble_eq_true rfl) (fun p e s m below meth c DA C0 hP hD ls hl => ?_)
  have hPD : WD G DA (wX10 G h0 a0 f0 A0) s.heap := ⟨hP, hD⟩
  have hS : va_S DA s.heap s.heap [] := va_S.rf
  have hl : lv_has ls 12 [(0, .ref h0), (1, .int p1), (2, .int p2), (3, .int p3)] := hl
  obtain ⟨hx, hb, hml, hown, hts⟩ := C0.1
  have hK := C0.2.2.2.1
  unfold f10_round at h
  refine lv_aload_n hx hb dX10_round_0 rfl (lv_at hl 0 rfl) ?_
  refine lv_iload_n hx hb dX10_round_1 rfl (lv_at hl 1 rfl) ?_
  refine kVI (As := [.int p1]) (rest := []) C0 (kt_X10_isTold l G h0 a0 f0 A0 p1) gi_V_X10_128_X10_isTold (n := 1) rfl (by decide +kernel) rfl ⟨rfl, rfl, Nat.le_of_ble_eq_true rfl, Nat.le_of_ble_eq_true rfl⟩ hPD hS 0 10 rfl rfl rfl [0, 1, 2, 3, 4, 5, 6, 7, 8, 9, 10, 11, 12, 13, 14, 15, 16, 17, 18, 19, 20, 21, 22, 23, 24, 25, 26, 27, 28, 29, 30, 31, 32, 33] [] [0, 1, 2, 3, 4, 5, 6, 7, 8, 9, 10, 11, 12, 13, 14, 15, 16, 17, 18, 19, 20, 21, 22, 23, 24, 25, 26, 27, 28, 29, 30, 31, 32, 33] (wr := ([] : va_W)) (wN := (wX10 G h0 a0 f0 A0)) rfl rfl rfl rfl rfl hl.1 (Nat.le_of_ble_eq_true rfl) dX10_round_2 (fun H locs hPD hS => ?_)
  refine lv_if_eq (tgt := 27) hx hb dX10_round_5 (by decide) (fun cc1 => ?_) (fun cc1 => ?_)
  · have h := (if_pos cc1).symm.trans h
    refine lv_iconst (v := (-1)) hx hb dX10_round_27 (by decide) ?_
    obtain rfl := Option.some.inj h
    exact eI C0 hPD.1 hPD.2 hS rfl dX10_round_28
  · have h := (if_neg cc1).symm.trans h
    refine lv_iload_n hx hb dX10_round_8 rfl (lv_at hl 2 rfl) ?_
    refine lv_iconst (v := 1) hx hb dX10_round_9 (by decide) ?_
    refine lv_bipush (v := 8) hx hb dX10_round_10 (by decide) ?_
    refine kSI (As := [.int p2, .int 1, .int 8]) (rest := []) C0 (kt_X10_in l G  p2 1 8) gi_S_X10_112_X10_in (n := 3) rfl (by decide +kernel) ⟨rfl, rfl, Nat.le_of_ble_eq_true rfl, Nat.le_of_ble_eq_true rfl⟩ hPD hS [] [0, 1, 2, 3, 4, 5, 6, 7, 8, 9, 10, 11, 12, 13, 14, 15, 16, 17, 18, 19, 20, 21, 22, 23, 24, 25, 26, 27, 28, 29, 30, 31, 32, 33] [0, 1, 2, 3, 4, 5, 6, 7, 8, 9, 10, 11, 12, 13, 14, 15, 16, 17, 18, 19, 20, 21, 22, 23, 24, 25, 26, 27, 28, 29, 30, 31, 32, 33] (wr := (wX10 G h0 a0 f0 A0)) (wN := (wX10 G h0 a0 f0 A0)) rfl rfl rfl rfl rfl hl.1 (Nat.le_of_ble_eq_true rfl) dX10_round_12 (fun H locs hPD hS => ?_)
    refine lv_if_eq (tgt := 27) hx hb dX10_round_15 (by decide) (fun cc1 => ?_) (fun cc1 => ?_)
    · have h := (if_pos cc1).symm.trans h
      refine lv_iconst (v := (-1)) hx hb dX10_round_27 (by decide) ?_
      obtain rfl := Option.some.inj h
      exact eI C0 hPD.1 hPD.2 hS rfl dX10_round_28
    · have h := (if_neg cc1).symm.trans h
      refine lv_iload_n hx hb dX10_round_18 rfl (lv_at hl 3 rfl) ?_
      refine lv_iconst (v := 0) hx hb dX10_round_19 (by decide) ?_
      refine lv_iconst (v := 1) hx hb dX10_round_20 (by decide) ?_
      refine kSI (As := [.int p3, .int 0, .int 1]) (rest := []) C0 (kt_X10_in l G  p3 0 1) gi_S_X10_112_X10_in (n := 3) rfl (by decide +kernel) ⟨rfl, rfl, Nat.le_of_ble_eq_true rfl, Nat.le_of_ble_eq_true rfl⟩ hPD hS [] [0, 1, 2, 3, 4, 5, 6, 7, 8, 9, 10, 11, 12, 13, 14, 15, 16, 17, 18, 19, 20, 21, 22, 23, 24, 25, 26, 27, 28, 29, 30, 31, 32, 33] [0, 1, 2, 3, 4, 5, 6, 7, 8, 9, 10, 11, 12, 13, 14, 15, 16, 17, 18, 19, 20, 21, 22, 23, 24, 25, 26, 27, 28, 29, 30, 31, 32, 33] (wr := (wX10 G h0 a0 f0 A0)) (wN := (wX10 G h0 a0 f0 A0)) rfl rfl rfl rfl rfl hl.1 (Nat.le_of_ble_eq_true rfl) dX10_round_21 (fun H locs hPD hS => ?_)
      refine lv_if_ne (tgt := 29) hx hb dX10_round_24 (by decide) (fun cc1 => ?_) (fun cc1 => ?_)
      · have h := (if_neg cc1).symm.trans h
        refine lv_bipush (v := 16) hx hb dX10_round_29 (by decide) ?_
        refine lv_iconst (v := 1) hx hb dX10_round_31 (by decide) ?_
        refine lv_iload_n hx hb dX10_round_32 rfl (lv_at hl 1 rfl) ?_
        refine lv_ishl hx hb dX10_round_33 ?_
        refine lv_imul hx hb dX10_round_34 ?_
        refine lv_iload_n hx hb dX10_round_35 rfl (lv_at hl 1 rfl) ?_
        refine lv_iadd hx hb dX10_round_36 ?_
        refine lv_istore (lv' := [(4, .int ((16 * (shl 1 p1)) + p1)), (0, .ref h0), (1, .int p1), (2, .int p2), (3, .int p3)]) hx hb dX10_round_37 hl (by decide) rfl (fun ls hl => ?_)
        refine lv_aload_n hx hb dX10_round_39 rfl (lv_at hl 1 rfl) ?_
        refine va_get (D := G.1) (ci := 10) (v := .ref (a0 44)) (C := RX10) (T := TX10) (N := 52) hx hb hts inlX10 hown hK hPD.1 0 rfl rfl 44 (by decide) (hts _ gw_777) (fun _ h9 => h9) rfl dX10_round_40 ?_
        refine lv_iconst (v := 0) hx hb dX10_round_43 (by decide) ?_
        refine lv_iload hx hb dX10_round_44 (lv_at hl 0 rfl) ?_
        refine va_iast hx hb hK hPD.1 hPD.2 hS 27 1 rfl rfl (vin rfl) dX10_round_46 (fun H locs hP hD hS => ?_)
        obtain ⟨A0_1, eA0_1, h⟩ := lvl h
        have hPD : WD G DA (wX10 G h0 a0 f0 A0_1) H := by rw [eA0_1]; exact ⟨hP, hD⟩
        clear eA0_1 hP hD
        refine lv_aload_n hx hb dX10_round_47 rfl (lv_at hl 1 rfl) ?_
        refine va_get (D := G.1) (ci := 10) (v := .ref (a0 43)) (C := RX10) (T := TX10) (N := 52) hx hb hts inlX10 hown hK hPD.1 0 rfl rfl 43 (by decide) (hts _ gw_778) (fun _ h9 => h9) rfl dX10_round_48 ?_
        refine lv_iload hx hb dX10_round_51 (lv_at hl 0 rfl) ?_
        refine lv_iconst (v := 1) hx hb dX10_round_53 (by decide) ?_
        obtain ⟨hi_2, h⟩ := ob h
        refine va_bast hx hb hK hPD.1 hPD.2 hS 26 0 rfl rfl hi_2 dX10_round_54 (fun H locs hP hD hS => ?_)
        obtain ⟨A0_3, eA0_3, h⟩ := lvl h
        have hPD : WD G DA (wX10 G h0 a0 f0 A0_3) H := by rw [eA0_3]; exact ⟨hP, hD⟩
        clear eA0_3 hP hD
        refine lv_iconst (v := 1) hx hb dX10_round_55 (by decide) ?_
        refine lv_istore (lv' := [(5, .int 1), (4, .int ((16 * (shl 1 p1)) + p1)), (0, .ref h0), (1, .int p1), (2, .int p2), (3, .int p3)]) hx hb dX10_round_56 hl (by decide) rfl (fun ls hl => ?_)
        refine lv_iconst (v := 1) hx hb dX10_round_58 (by decide) ?_
        refine lv_iload_n hx hb dX10_round_59 rfl (lv_at hl 3 rfl) ?_
        refine lv_ishl hx hb dX10_round_60 ?_
        refine lv_istore (lv' := [(6, .int (shl 1 p1)), (5, .int 1), (4, .int ((16 * (shl 1 p1)) + p1)), (0, .ref h0), (1, .int p1), (2, .int p2), (3, .int p3)]) hx hb dX10_round_61 hl (by decide) rfl (fun ls hl => ?_)
        refine lv_iconst (v := 0) hx hb dX10_round_63 (by decide) ?_
        refine lv_istore (lv' := [(7, .int 0), (6, .int (shl 1 p1)), (5, .int 1), (4, .int ((16 * (shl 1 p1)) + p1)), (0, .ref h0), (1, .int p1), (2, .int p2), (3, .int p3)]) hx hb dX10_round_64 hl (by decide) rfl (fun ls hl => ?_)
        exact ww_f10_round_l66 C0 NF A0_3 1 (shl 1 p1) 0 h _ _ _ hPD hS (lv_sub hl [4, 5, 6, 7, 2, 1, 0] rfl)
      · have h := (if_pos cc1).symm.trans h
        refine lv_iconst (v := (-1)) hx hb dX10_round_27 (by decide) ?_
        obtain rfl := Option.some.inj h
        exact eI C0 hPD.1 hPD.2 hS rfl dX10_round_28
abbrev rmX10_laysSteps : Room := { frames := 1, cells := 0, slots := 0, locals := 21 }
set_option maxRecDepth 100000 in
set_option maxHeartbeats 4000000 in
theorem ww_f10_laysSteps_b133  (C0 : Cx cX10_laysSteps 6 none RX10 p s m args meth c G DA) {h0 : Nat} {a0 : Nat → Nat} {f0 : Nat → Int32} {p1 : Int32}  {k69 : (Nat → Nat → Int32) → Int32 → Int32 → Int32 → Int32 → Option ((Nat → Nat → Int32))} {res : (Nat → Nat → Int32)} (hk69 : ∀ (A0 : Nat → Nat → Int32) (l2 : Int32) (l3 : Int32) (l4 : Int32) (l5 : Int32), k69 A0 l2 l3 l4 l5 = some res → ∀ (H : Heap) (locs : List Loc) (ls : Array Slot), WD G DA (wX10 G h0 a0 f0 A0) H → va_S DA s.heap H locs → lv_has ls 6 [(0, .ref h0), (1, .int p1), (2, .int l2), (3, .int l3), (4, .int l4), (5, .int l5)] → W p l e rmX10_laysSteps s m args below meth c H locs 0 0 (MQ below (QV G DA (wX10 G h0 a0 f0 res)) args s 0 0 DA) (F0 m 69 ls [])) : ∀ (A0 : Nat → Nat → Int32) (l2 : Int32) (l3 : Int32) (l4 : Int32) (l5 : Int32), f10_laysSteps_b133 f0 p1 k69 A0 l2 l3 l4 l5 = some res → ∀ (H : Heap) (locs : List Loc) (ls : Array Slot), WD G DA (wX10 G h0 a0 f0 A0) H → va_S DA s.heap H locs → lv_has ls 6 [(0, .ref h0), (1, .int p1), (2, .int l2), (3, .int l3), (4, .int l4), (5, .int l5)] → W p l e rmX10_laysSteps s m args below meth c H locs 0 0 (MQ below (QV G DA (wX10 G h0 a0 f0 res)) args s 0 0 DA) (F0 m 133 ls []) := by
  obtain ⟨hx, hb, hml, hown, hts⟩ := C0.1
  have hK := C0.2.2.2.1
  intro A0 l2 l3 l4 l5 h _ _ _ hPD hS hl
  unfold f10_laysSteps_b133 at h
  refine lv_aload_n hx hb dX10_laysSteps_133 rfl (lv_at hl 0 rfl) ?_
  refine va_get (D := G.1) (ci := 10) (v := .ref (a0 46)) (C := RX10) (T := TX10) (N := 52) hx hb hts inlX10 hown hK hPD.1 0 rfl rfl 46 (by decide) (hts _ gw_783) (fun _ h9 => h9) rfl dX10_laysSteps_134 ?_
  refine lv_iload hx hb dX10_laysSteps_137 (lv_at hl 5 rfl) ?_
  obtain ⟨hi_9, h⟩ := ob h
  refine va_iald hx hb hK hPD.1 29 1 rfl rfl hi_9 dX10_laysSteps_139 ?_
  refine lv_aload_n hx hb dX10_laysSteps_140 rfl (lv_at hl 0 rfl) ?_
  refine va_get (D := G.1) (ci := 10) (v := .ref (a0 46)) (C := RX10) (T := TX10) (N := 52) hx hb hts inlX10 hown hK hPD.1 0 rfl rfl 46 (by decide) (hts _ gw_783) (fun _ h9 => h9) rfl dX10_laysSteps_141 ?_
  refine lv_iload hx hb dX10_laysSteps_144 (lv_at hl 4 rfl) ?_
  obtain ⟨hi_10, h⟩ := ob h
  refine va_iald hx hb hK hPD.1 29 1 rfl rfl hi_10 dX10_laysSteps_146 ?_
  refine lv_iconst (v := 1) hx hb dX10_laysSteps_147 (by decide) ?_
  refine lv_iadd hx hb dX10_laysSteps_148 ?_
  refine lv_icmp_ne (tgt := 174) hx hb dX10_laysSteps_149 (by decide) (fun cc1 => ?_) (fun cc1 => ?_)
  · have h := (if_neg cc1).symm.trans h
    refine lv_iinc (v := l5 + 1) (lv' := [(5, .int (l5 + 1)), (0, .ref h0), (1, .int p1), (2, .int l2), (3, .int l3), (4, .int l4)]) hx hb dX10_laysSteps_174 hl (k := 5) rfl rfl (by decide) rfl (fun ls hl => ?_)
    refine lv_goto (tgt := 69) hx hb dX10_laysSteps_177 (by decide) ?_
    exact hk69 A0 l2 l3 l4 (l5 + 1) h _ _ _ hPD hS (lv_sub hl [1, 2, 3, 4, 5, 0] rfl)
  · have h := (if_pos cc1).symm.trans h
    refine lv_aload_n hx hb dX10_laysSteps_152 rfl (lv_at hl 0 rfl) ?_
    refine va_get (D := G.1) (ci := 10) (v := .ref (a0 47)) (C := RX10) (T := TX10) (N := 52) hx hb hts inlX10 hown hK hPD.1 0 rfl rfl 47 (by decide) (hts _ gw_784) (fun _ h9 => h9) rfl dX10_laysSteps_153 ?_
    refine lv_iload hx hb dX10_laysSteps_156 (lv_at hl 5 rfl) ?_
    refine lv_aload_n hx hb dX10_laysSteps_158 rfl (lv_at hl 0 rfl) ?_
    refine va_get (D := G.1) (ci := 10) (v := .ref (a0 47)) (C := RX10) (T := TX10) (N := 52) hx hb hts inlX10 hown hK hPD.1 0 rfl rfl 47 (by decide) (hts _ gw_784) (fun _ h9 => h9) rfl dX10_laysSteps_159 ?_
    refine lv_iload hx hb dX10_laysSteps_162 (lv_at hl 5 rfl) ?_
    obtain ⟨hi_11, h⟩ := ob h
    refine va_iald hx hb hK hPD.1 30 1 rfl rfl hi_11 dX10_laysSteps_164 ?_
    refine lv_aload_n hx hb dX10_laysSteps_165 rfl (lv_at hl 0 rfl) ?_
    refine va_get (D := G.1) (ci := 10) (v := .ref (a0 47)) (C := RX10) (T := TX10) (N := 52) hx hb hts inlX10 hown hK hPD.1 0 rfl rfl 47 (by decide) (hts _ gw_784) (fun _ h9 => h9) rfl dX10_laysSteps_166 ?_
    refine lv_iload hx hb dX10_laysSteps_169 (lv_at hl 4 rfl) ?_
    obtain ⟨hi_12, h⟩ := ob h
    refine va_iald hx hb hK hPD.1 30 1 rfl rfl hi_12 dX10_laysSteps_171 ?_
    refine lv_iadd hx hb dX10_laysSteps_172 ?_
    obtain ⟨hi_13, h⟩ := ob h
    refine va_iast hx hb hK hPD.1 hPD.2 hS 30 1 rfl rfl hi_13 dX10_laysSteps_173 (fun H locs hP hD hS => ?_)
    obtain ⟨A0_14, eA0_14, h⟩ := lvl h
    have hPD : WD G DA (wX10 G h0 a0 f0 A0_14) H := by rw [eA0_14]; exact ⟨hP, hD⟩
    clear eA0_14 hP hD
    refine lv_iinc (v := l5 + 1) (lv' := [(5, .int (l5 + 1)), (0, .ref h0), (1, .int p1), (2, .int l2), (3, .int l3), (4, .int l4)]) hx hb dX10_laysSteps_174 hl (k := 5) rfl rfl (by decide) rfl (fun ls hl => ?_)
    refine lv_goto (tgt := 69) hx hb dX10_laysSteps_177 (by decide) ?_
    exact hk69 A0_14 l2 l3 l4 (l5 + 1) h _ _ _ hPD hS (lv_sub hl [1, 2, 3, 4, 5, 0] rfl)
end WALK
