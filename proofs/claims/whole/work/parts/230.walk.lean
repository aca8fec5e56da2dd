section WALK
variable {p : Program} {l : Launch} {e : Env} {s : State} {m : MethodId} {args : Array Value} {below : List Frame} {meth : Method} {c : Code} {G : Gp} {DA : Nat → Prop}
set_option maxRecDepth 100000 in
set_option maxHeartbeats 4000000 in
theorem ww_f10_hasOpenSum_l2  (C0 : Cx cX10_hasOpenSum 3 (some .boolean) RX10 p s m args meth c G DA) {h0 : Nat} {a0 : Nat → Nat} {f0 : Nat → Int32} {A0 : Nat → Nat → Int32} {p1 : Int32}   {res : Int32}  : ∀ (n : Nat) (l2 : Int32), f10_hasOpenSum_l2 f0 A0 p1  n l2 = some res → ∀ (H : Heap) (locs : List Loc) (ls : Array Slot), WD G DA (wX10 G h0 a0 f0 A0) H → va_S DA s.heap H locs → lv_has ls 3 [(0, .ref h0), (1, .int p1), (2, .int l2)] → W p l e rmX10_hasOpenSum s m args below meth c H locs 0 0 (MQ below (QI G DA res (wX10 G h0 a0 f0 A0)) args s 0 0 DA) (F0 m 2 ls []) := by
  intro n
  induction n with
  | zero => intro l2 h; cases h
  | succ n ih => intro l2 h; exact ww_f10_hasOpenSum_b2 C0  ih l2 h
set_option maxRecDepth 100000 in
set_option maxHeartbeats 4000000 in
theorem kt_X10_hasOpenSum (l : Launch) (G : Gp) (h0 : Nat) (a0 : Nat → Nat) (f0 : Nat → Int32) (A0 : Nat → Nat → Int32) (p1 : Int32) : ∀ {r : Int32}, f10_hasOpenSum f0 A0 p1 = some r → CtrI l yX10_hasOpenSum cX10_hasOpenSum 3 (some .boolean) rmX10_hasOpenSum G [.ref h0, .int p1] (wX10 G h0 a0 f0 A0) r (wX10 G h0 a0 f0 A0) := by
  intro res h
  refine ctrI_of (cc := cX10_hasOpenSum) (maxL := 3) (ret := (some .boolean)) (by decide +kernel) rfl (Nat.le_of_ble_eq_true rfl) (fun p e s m below meth c DA C0 hP hD ls hl => ?_)
  have hPD : WD G DA (wX10 G h0 a0 f0 A0) s.heap := ⟨hP, hD⟩
  have hS : va_S DA s.heap s.heap [] := va_S.rf
  have hl : lv_has ls 3 [(0, .ref h0), (1, .int p1)] := hl
  obtain ⟨hx, hb, hml, hown, hts⟩ := C0.1
  have hK := C0.2.2.2.1
  unfold f10_hasOpenSum at h
  refine lv_iload_n hx hb dX10_hasOpenSum_0 rfl (lv_at hl 1 rfl) ?_
  refine lv_istore_n (lv' := [(2, .int p1), (0, .ref h0), (1, .int p1)]) hx hb dX10_hasOpenSum_1 rfl hl (by decide) rfl (fun ls hl => ?_)
  exact ww_f10_hasOpenSum_l2 C0 NF p1 h _ _ _ hPD hS (lv_sub hl [1, 2, 0] rfl)
abbrev rmX10_readsSum : Room := { frames := 4, cells := 0, slots := 0, locals := 82 }
set_option maxRecDepth 100000 in
set_option maxHeartbeats 4000000 in
theorem ww_f10_readsSum_b138  (C0 : Cx cX10_readsSum 3 (some .boolean) RX10 p s m args meth c G DA) {h0 : Nat} {a0 : Nat → Nat}   {res : Int32 × (Nat → Nat → Int32) × (Nat → Int32)}  : ∀ (A0 : Nat → Nat → Int32) (f0 : Nat → Int32) (l1 : Int32), f10_readsSum_b138   A0 f0 l1 = some res → ∀ (H : Heap) (locs : List Loc) (ls : Array Slot), WD G DA (wX10 G h0 a0 f0 A0) H → va_S DA s.heap H locs → lv_has ls 3 [(0, .ref h0), (1, .int l1)] → W p l e rmX10_readsSum s m args below meth c H locs 0 0 (MQ below (QI G DA res.1 (wX10 G h0 a0 res.2.2 res.2.1)) args s 0 0 DA) (F0 m 138 ls []) := by
  obtain ⟨hx, hb, hml, hown, hts⟩ := C0.1
  have hK := C0.2.2.2.1
  intro A0 f0 l1 h _ _ _ hPD hS hl
  unfold f10_readsSum_b138 at h
  refine lv_aload_n hx hb dX10_readsSum_138 rfl (lv_at hl 0 rfl) ?_
  refine lv_iload_n hx hb dX10_readsSum_139 rfl (lv_at hl 1 rfl) ?_
  obtain ⟨q_4, hq_4, h⟩ := ob2 h
  refine kVI (As := [.int l1]) (rest := []) C0 (kt_X10_hasOpenSum l G h0 a0 f0 A0 l1 hq_4) gi_V_X10_197_X10_hasOpenSum (n := 1) rfl (by decide +kernel) rfl ⟨rfl, rfl, Nat.le_of_ble_eq_true rfl, Nat.le_of_ble_eq_true rfl⟩ hPD hS 0 10 rfl rfl rfl [0, 1, 2, 3, 4, 5, 6, 7, 8, 9, 10, 11, 12, 13, 14, 15, 16, 17, 18, 19, 20, 21, 22, 23, 24, 25, 26, 27, 28, 29, 30, 31, 32, 33] [] [0, 1, 2, 3, 4, 5, 6, 7, 8, 9, 10, 11, 12, 13, 14, 15, 16, 17, 18, 19, 20, 21, 22, 23, 24, 25, 26, 27, 28, 29, 30, 31, 32, 33] (wr := ([] : va_W)) (wN := (wX10 G h0 a0 f0 A0)) rfl rfl rfl rfl rfl hl.1 (Nat.le_of_ble_eq_true rfl) dX10_readsSum_140 (fun H locs hPD hS => ?_)
  refine lv_if_eq (tgt := 156) hx hb dX10_readsSum_143 (by decide) (fun cc1 => ?_) (fun cc1 => ?_)
  · have h := (if_pos cc1).symm.trans h
    refine lv_aload_n hx hb dX10_readsSum_156 rfl (lv_at hl 0 rfl) ?_
    refine lv_iconst (v := 1) hx hb dX10_readsSum_157 (by decide) ?_
    obtain ⟨q_5, hq_5, h⟩ := ob2 h
    refine kVV (As := [.int 1]) (rest := []) C0 (kt_X10_closesSums l G h0 a0 f0 A0 1 hq_5) gi_V_X10_193_X10_closesSums (n := 1) rfl (by decide +kernel) rfl ⟨rfl, rfl, Nat.le_of_ble_eq_true rfl, Nat.le_of_ble_eq_true rfl⟩ hPD hS 0 10 rfl rfl rfl [0, 1, 2, 3, 4, 5, 6, 7, 8, 9, 10, 11, 12, 13, 14, 15, 16, 17, 18, 19, 20, 21, 22, 23, 24, 25, 26, 27, 28, 29, 30, 31, 32, 33] [] [0, 1, 2, 3, 4, 5, 6, 7, 8, 9, 10, 11, 12, 13, 14, 15, 16, 17, 18, 19, 20, 21, 22, 23, 24, 25, 26, 27, 28, 29, 30, 31, 32, 33] (wr := ([] : va_W)) (wN := (wX10 G h0 a0 q_5.2 q_5.1)) rfl rfl rfl rfl rfl hl.1 (Nat.le_of_ble_eq_true rfl) dX10_readsSum_158 (fun H locs hPD hS => ?_)
    refine lv_iconst (v := 1) hx hb dX10_readsSum_161 (by decide) ?_
    obtain rfl := Option.some.inj h
    exact eZ C0 hPD.1 hPD.2 hS rfl rfl dX10_readsSum_162
  · have h := (if_neg cc1).symm.trans h
    refine lv_aload_n hx hb dX10_readsSum_146 rfl (lv_at hl 0 rfl) ?_
    refine lv_iconst (v := 1) hx hb dX10_readsSum_147 (by decide) ?_
    refine lv_aload_n hx hb dX10_readsSum_148 rfl (lv_at hl 0 rfl) ?_
    refine va_get (D := G.1) (ci := 10) (v := .int (f0 9)) (C := RX10) (T := TX10) (N := 52) hx hb hts inlX10 hown hK hPD.1 0 rfl rfl 9 (by decide) (hts _ gw_551) (fun _ h9 => h9) rfl dX10_readsSum_149 ?_
    obtain ⟨q_6, hq_6, h⟩ := ob2 h
    refine kVI (As := [.int 1, .int (f0 9)]) (rest := []) C0 (kt_X10_wrongAt l G h0 a0 f0 A0 1 (f0 9) hq_6) gi_V_X10_151_X10_wrongAt (n := 2) rfl (by decide +kernel) rfl ⟨rfl, rfl, Nat.le_of_ble_eq_true rfl, Nat.le_of_ble_eq_true rfl⟩ hPD hS 0 10 rfl rfl rfl [0, 1, 2, 3, 4, 5, 6, 7, 8, 9, 10, 11, 12, 13, 14, 15, 16, 17, 18, 19, 20, 21, 22, 23, 24, 25, 26, 27, 28, 29, 30, 31, 32, 33] [] [0, 1, 2, 3, 4, 5, 6, 7, 8, 9, 10, 11, 12, 13, 14, 15, 16, 17, 18, 19, 20, 21, 22, 23, 24, 25, 26, 27, 28, 29, 30, 31, 32, 33] (wr := ([] : va_W)) (wN := (wX10 G h0 a0 q_6.2 A0)) rfl rfl rfl rfl rfl hl.1 (Nat.le_of_ble_eq_true rfl) dX10_readsSum_152 (fun H locs hPD hS => ?_)
    obtain ⟨hz, h⟩ := ob h
    obtain rfl := Option.some.inj h
    exact eZ C0 hPD.1 hPD.2 hS rfl (nbool (Classical.not_not.mp hz)) dX10_readsSum_155
set_option maxRecDepth 100000 in
set_option maxHeartbeats 4000000 in
theorem ww_f10_readsSum_b38  (C0 : Cx cX10_readsSum 3 (some .boolean) RX10 p s m args meth c G DA) {h0 : Nat} {a0 : Nat → Nat}  {k14 : (Nat → Nat → Int32) → (Nat → Int32) → Int32 → Option (Int32 × (Nat → Nat → Int32) × (Nat → Int32))} {res : Int32 × (Nat → Nat → Int32) × (Nat → Int32)} (hk14 : ∀ (A0 : Nat → Nat → Int32) (f0 : Nat → Int32) (l1 : Int32), k14 A0 f0 l1 = some res → ∀ (H : Heap) (locs : List Loc) (ls : Array Slot), WD G DA (wX10 G h0 a0 f0 A0) H → va_S DA s.heap H locs → lv_has ls 3 [(0, .ref h0), (1, .int l1)] → W p l e rmX10_readsSum s m args below meth c H locs 0 0 (MQ below (QI G DA res.1 (wX10 G h0 a0 res.2.2 res.2.1)) args s 0 0 DA) (F0 m 14 ls [])) : ∀ (A0 : Nat → Nat → Int32) (f0 : Nat → Int32) (l1 : Int32) (l2 : Int32) (s0 : Int32), f10_readsSum_b38  k14 A0 f0 l1 l2 s0 = some res → ∀ (H : Heap) (locs : List Loc) (ls : Array Slot), WD G DA (wX10 G h0 a0 f0 A0) H → va_S DA s.heap H locs → lv_has ls 3 [(0, .ref h0), (1, .int l1), (2, .int l2)] → W p l e rmX10_readsSum s m args below meth c H locs 0 0 (MQ below (QI G DA res.1 (wX10 G h0 a0 res.2.2 res.2.1)) args s 0 0 DA) (F0 m 38 ls [.int s0, .ref h0]) := by
  obtain ⟨hx, hb, hml, hown, hts⟩ := C0.1
  have hK := C0.2.2.2.1
  intro A0 f0 l1 l2 s0 h _ _ _ hPD hS hl
  unfold f10_readsSum_b38 at h
  obtain ⟨q_12, hq_12, h⟩ := ob2 h
  refine kVV (As := [.int s0]) (rest := []) C0 (kt_X10_closesSums l G h0 a0 f0 A0 s0 hq_12) gi_V_X10_193_X10_closesSums (n := 1) rfl (by decide +kernel) rfl ⟨rfl, rfl, Nat.le_of_ble_eq_true rfl, Nat.le_of_ble_eq_true rfl⟩ hPD hS 0 10 rfl rfl rfl [0, 1, 2, 3, 4, 5, 6, 7, 8, 9, 10, 11, 12, 13, 14, 15, 16, 17, 18, 19, 20, 21, 22, 23, 24, 25, 26, 27, 28, 29, 30, 31, 32, 33] [] [0, 1, 2, 3, 4, 5, 6, 7, 8, 9, 10, 11, 12, 13, 14, 15, 16, 17, 18, 19, 20, 21, 22, 23, 24, 25, 26, 27, 28, 29, 30, 31, 32, 33] (wr := ([] : va_W)) (wN := (wX10 G h0 a0 q_12.2 q_12.1)) rfl rfl rfl rfl rfl hl.1 (Nat.le_of_ble_eq_true rfl) dX10_readsSum_38 (fun H locs hPD hS => ?_)
  refine lv_aload_n hx hb dX10_readsSum_41 rfl (lv_at hl 0 rfl) ?_
  refine va_get (D := G.1) (ci := 10) (v := .ref (a0 19)) (C := RX10) (T := TX10) (N := 52) hx hb hts inlX10 hown hK hPD.1 0 rfl rfl 19 (by decide) (hts _ gw_571) (fun _ h9 => h9) rfl dX10_readsSum_42 ?_
  refine lv_aload_n hx hb dX10_readsSum_45 rfl (lv_at hl 0 rfl) ?_
  refine va_get (D := G.1) (ci := 10) (v := .int (q_12.2 15)) (C := RX10) (T := TX10) (N := 52) hx hb hts inlX10 hown hK hPD.1 0 rfl rfl 15 (by decide) (hts _ gw_572) (fun _ h9 => h9) rfl dX10_readsSum_46 ?_
  refine lv_ldc (v := 1048576) hx hb hown (hts _ gw_569) dX10_readsSum_49 ?_
  refine lv_iload_n hx hb dX10_readsSum_51 rfl (lv_at hl 2 rfl) ?_
  refine lv_imul hx hb dX10_readsSum_52 ?_
  obtain ⟨hi_13, h⟩ := ob h
  refine va_iast hx hb hK hPD.1 hPD.2 hS 9 1 rfl rfl hi_13 dX10_readsSum_53 (fun H locs hP hD hS => ?_)
  obtain ⟨A0_14, eA0_14, h⟩ := lvl h
  have hPD : WD G DA (wX10 G h0 a0 q_12.2 A0_14) H := by rw [eA0_14]; exact ⟨hP, hD⟩
  clear eA0_14 hP hD
  refine lv_aload_n hx hb dX10_readsSum_54 rfl (lv_at hl 0 rfl) ?_
  refine lv_aload_n hx hb dX10_readsSum_55 rfl (lv_at hl 0 rfl) ?_
  refine va_get (D := G.1) (ci := 10) (v := .int (q_12.2 15)) (C := RX10) (T := TX10) (N := 52) hx hb hts inlX10 hown hK hPD.1 0 rfl rfl 15 (by decide) (hts _ gw_572) (fun _ h9 => h9) rfl dX10_readsSum_56 ?_
  refine lv_iconst (v := 1) hx hb dX10_readsSum_59 (by decide) ?_
  refine lv_iadd hx hb dX10_readsSum_60 ?_
  refine va_put (D := G.1) (ci := 10) (v := .int ((q_12.2 15) + 1)) (ty := .int) (C := RX10) (T := TX10) (N := 52) hx hb hts inlX10 tyX10 tyX10_ok nmX10 hown hK hPD.1 hPD.2 hS 0 rfl rfl 15 (by decide) (hts _ gw_572) (fun _ h9 => h9) rfl (by decide +kernel) rfl rfl (Nat.le_of_ble_eq_true rfl) dX10_readsSum_61 (fun H locs hP hD hS => ?_)
  obtain ⟨f0_15, ef0_15, h⟩ := lvl h
  have hPD : WD G DA (wX10 G h0 a0 f0_15 A0_14) H := by rw [ef0_15]; exact ⟨hP, hD⟩
  clear ef0_15 hP hD
  refine lv_aload_n hx hb dX10_readsSum_64 rfl (lv_at hl 0 rfl) ?_
  refine lv_aload_n hx hb dX10_readsSum_65 rfl (lv_at hl 0 rfl) ?_
  refine va_get (D := G.1) (ci := 10) (v := .int (f0_15 9)) (C := RX10) (T := TX10) (N := 52) hx hb hts inlX10 hown hK hPD.1 0 rfl rfl 9 (by decide) (hts _ gw_551) (fun _ h9 => h9) rfl dX10_readsSum_66 ?_
  refine lv_iconst (v := 1) hx hb dX10_readsSum_69 (by decide) ?_
  refine lv_iadd hx hb dX10_readsSum_70 ?_
  refine va_put (D := G.1) (ci := 10) (v := .int ((f0_15 9) + 1)) (ty := .int) (C := RX10) (T := TX10) (N := 52) hx hb hts inlX10 tyX10 tyX10_ok nmX10 hown hK hPD.1 hPD.2 hS 0 rfl rfl 9 (by decide) (hts _ gw_551) (fun _ h9 => h9) rfl (by decide +kernel) rfl rfl (Nat.le_of_ble_eq_true rfl) dX10_readsSum_71 (fun H locs hP hD hS => ?_)
  obtain ⟨f0_16, ef0_16, h⟩ := lvl h
  have hPD : WD G DA (wX10 G h0 a0 f0_16 A0_14) H := by rw [ef0_16]; exact ⟨hP, hD⟩
  clear ef0_16 hP hD
  refine lv_aload_n hx hb dX10_readsSum_74 rfl (lv_at hl 0 rfl) ?_
  obtain ⟨q_17, hq_17, h⟩ := ob2 h
  refine kVI (As := []) (rest := []) C0 (kt_X10_readsFactor l G h0 a0 f0_16 A0_14 hq_17) gi_V_X10_187_X10_readsFactor (n := 0) rfl (by decide +kernel) rfl ⟨rfl, rfl, Nat.le_of_ble_eq_true rfl, Nat.le_of_ble_eq_true rfl⟩ hPD hS 0 10 rfl rfl rfl [0, 1, 2, 3, 4, 5, 6, 7, 8, 9, 10, 11, 12, 13, 14, 15, 16, 17, 18, 19, 20, 21, 22, 23, 24, 25, 26, 27, 28, 29, 30, 31, 32, 33] [] [0, 1, 2, 3, 4, 5, 6, 7, 8, 9, 10, 11, 12, 13, 14, 15, 16, 17, 18, 19, 20, 21, 22, 23, 24, 25, 26, 27, 28, 29, 30, 31, 32, 33] (wr := ([] : va_W)) (wN := (wX10 G h0 a0 q_17.2.2 q_17.2.1)) rfl rfl rfl rfl rfl hl.1 (Nat.le_of_ble_eq_true rfl) dX10_readsSum_75 (fun H locs hPD hS => ?_)
  refine lv_if_ne (tgt := 163) hx hb dX10_readsSum_78 (by decide) (fun cc1 => ?_) (fun cc1 => ?_)
  · have h := (if_neg cc1).symm.trans h
    refine lv_goto (tgt := 14) hx hb dX10_readsSum_163 (by decide) ?_
    exact hk14 q_17.2.1 q_17.2.2 l1 h _ _ _ hPD hS (lv_sub hl [0, 1] rfl)
  · have h := (if_pos cc1).symm.trans h
    refine lv_iconst (v := 0) hx hb dX10_readsSum_81 (by decide) ?_
    obtain rfl := Option.some.inj h
    exact eZ C0 hPD.1 hPD.2 hS rfl rfl dX10_readsSum_82
set_option maxRecDepth 100000 in
set_option maxHeartbeats 4000000 in
theorem ww_f10_readsSum_b14  (C0 : Cx cX10_readsSum 3 (some .boolean) RX10 p s m args meth c G DA) {h0 : Nat} {a0 : Nat → Nat}  {k14 : (Nat → Nat → Int32) → (Nat → Int32) → Int32 → Option (Int32 × (Nat → Nat → Int32) × (Nat → Int32))} {res : Int32 × (Nat → Nat → Int32) × (Nat → Int32)}  (hk14 : ∀ (A0 : Nat → Nat → Int32) (f0 : Nat → Int32) (l1 : Int32), k14 A0 f0 l1 = some res → ∀ (H : Heap) (locs : List Loc) (ls : Array Slot), WD G DA (wX10 G h0 a0 f0 A0) H → va_S DA s.heap H locs → lv_has ls 3 [(0, .ref h0), (1, .int l1)] → W p l e rmX10_readsSum s m args below meth c H locs 0 0 (MQ below (QI G DA res.1 (wX10 G h0 a0 res.2.2 res.2.1)) args s 0 0 DA) (F0 m 14 ls [])) : ∀ (A0 : Nat → Nat → Int32) (f0 : Nat → Int32) (l1 : Int32), f10_readsSum_b14   k14 A0 f0 l1 = some res → ∀ (H : Heap) (locs : List Loc) (ls : Array Slot), WD G DA (wX10 G h0 a0 f0 A0) H → va_S DA s.heap H locs → lv_has ls 3 [(0, .ref h0), (1, .int l1)] → W p l e rmX10_readsSum s m args below meth c H locs 0 0 (MQ below (QI G DA res.1 (wX10 G h0 a0 res.2.2 res.2.1)) args s 0 0 DA) (F0 m 14 ls []) := by
  obtain ⟨hx, hb, hml, hown, hts⟩ := C0.1
  have hK := C0.2.2.2.1
  intro A0 f0 l1 h _ _ _ hPD hS hl
  unfold f10_readsSum_b14 at h
  refine lv_aload_n hx hb dX10_readsSum_14 rfl (lv_at hl 0 rfl) ?_
  obtain ⟨q_2, hq_2, h⟩ := ob2 h
  refine kVI (As := []) (rest := []) C0 (kt_X10_here l G h0 a0 f0 A0 hq_2) gi_V_X10_144_X10_here (n := 0) rfl (by decide +kernel) rfl ⟨rfl, rfl, Nat.le_of_ble_eq_true rfl, Nat.le_of_ble_eq_true rfl⟩ hPD hS 0 10 rfl rfl rfl [0, 1, 2, 3, 4, 5, 6, 7, 8, 9, 10, 11, 12, 13, 14, 15, 16, 17, 18, 19, 20, 21, 22, 23, 24, 25, 26, 27, 28, 29, 30, 31, 32, 33] [] [0, 1, 2, 3, 4, 5, 6, 7, 8, 9, 10, 11, 12, 13, 14, 15, 16, 17, 18, 19, 20, 21, 22, 23, 24, 25, 26, 27, 28, 29, 30, 31, 32, 33] (wr := ([] : va_W)) (wN := (wX10 G h0 a0 f0 A0)) rfl rfl rfl rfl rfl hl.1 (Nat.le_of_ble_eq_true rfl) dX10_readsSum_15 (fun H locs hPD hS => ?_)
  refine kSI (As := [.int q_2]) (rest := []) C0 (kt_X10_sumSign l G  q_2) gi_S_X10_190_X10_sumSign (n := 1) rfl (by decide +kernel) ⟨rfl, rfl, Nat.le_of_ble_eq_true rfl, Nat.le_of_ble_eq_true rfl⟩ hPD hS [] [0, 1, 2, 3, 4, 5, 6, 7, 8, 9, 10, 11, 12, 13, 14, 15, 16, 17, 18, 19, 20, 21, 22, 23, 24, 25, 26, 27, 28, 29, 30, 31, 32, 33] [0, 1, 2, 3, 4, 5, 6, 7, 8, 9, 10, 11, 12, 13, 14, 15, 16, 17, 18, 19, 20, 21, 22, 23, 24, 25, 26, 27, 28, 29, 30, 31, 32, 33] (wr := (wX10 G h0 a0 f0 A0)) (wN := (wX10 G h0 a0 f0 A0)) rfl rfl rfl rfl rfl hl.1 (Nat.le_of_ble_eq_true rfl) dX10_readsSum_18 (fun H locs hPD hS => ?_)
  refine lv_istore_n (lv' := [(2, .int (f10_sumSign q_2)), (0, .ref h0), (1, .int l1)]) hx hb dX10_readsSum_21 rfl hl (by decide) rfl (fun ls hl => ?_)
  refine lv_iload_n hx hb dX10_readsSum_22 rfl (lv_at hl 0 rfl) ?_
  refine lv_iconst (v := (-1)) hx hb dX10_readsSum_23 (by decide) ?_
  refine lv_icmp_eq (tgt := 83) hx hb dX10_readsSum_24 (by decide) (fun cc1 => ?_) (fun cc1 => ?_)
  · have h := (if_pos cc1).symm.trans h
    refine lv_aload_n hx hb dX10_readsSum_83 rfl (lv_at hl 1 rfl) ?_
    obtain ⟨q_3, hq_3, h⟩ := ob2 h
    refine kVI (As := []) (rest := []) C0 (kt_X10_here l G h0 a0 f0 A0 hq_3) gi_V_X10_144_X10_here (n := 0) rfl (by decide +kernel) rfl ⟨rfl, rfl, Nat.le_of_ble_eq_true rfl, Nat.le_of_ble_eq_true rfl⟩ hPD hS 0 10 rfl rfl rfl [0, 1, 2, 3, 4, 5, 6, 7, 8, 9, 10, 11, 12, 13, 14, 15, 16, 17, 18, 19, 20, 21, 22, 23, 24, 25, 26, 27, 28, 29, 30, 31, 32, 33] [] [0, 1, 2, 3, 4, 5, 6, 7, 8, 9, 10, 11, 12, 13, 14, 15, 16, 17, 18, 19, 20, 21, 22, 23, 24, 25, 26, 27, 28, 29, 30, 31, 32, 33] (wr := ([] : va_W)) (wN := (wX10 G h0 a0 f0 A0)) rfl rfl rfl rfl rfl hl.1 (Nat.le_of_ble_eq_true rfl) dX10_readsSum_84 (fun H locs hPD hS => ?_)
    refine lv_bipush (v := 93) hx hb dX10_readsSum_87 (by decide) ?_
    refine lv_icmp_ne (tgt := 138) hx hb dX10_readsSum_89 (by decide) (fun cc1 => ?_) (fun cc1 => ?_)
    · have h := (if_neg cc1).symm.trans h
      exact ww_f10_readsSum_b138 C0 A0 f0 l1 h _ _ _ hPD hS (lv_sub hl [1, 2] rfl)
    · have h := (if_pos cc1).symm.trans h
      refine lv_aload_n hx hb dX10_readsSum_92 rfl (lv_at hl 1 rfl) ?_
      refine lv_iload_n hx hb dX10_readsSum_93 rfl (lv_at hl 2 rfl) ?_
      obtain ⟨q_7, hq_7, h⟩ := ob2 h
      refine kVI (As := [.int l1]) (rest := []) C0 (kt_X10_hasOpenSum l G h0 a0 f0 A0 l1 hq_7) gi_V_X10_197_X10_hasOpenSum (n := 1) rfl (by decide +kernel) rfl ⟨rfl, rfl, Nat.le_of_ble_eq_true rfl, Nat.le_of_ble_eq_true rfl⟩ hPD hS 0 10 rfl rfl rfl [0, 1, 2, 3, 4, 5, 6, 7, 8, 9, 10, 11, 12, 13, 14, 15, 16, 17, 18, 19, 20, 21, 22, 23, 24, 25, 26, 27, 28, 29, 30, 31, 32, 33] [] [0, 1, 2, 3, 4, 5, 6, 7, 8, 9, 10, 11, 12, 13, 14, 15, 16, 17, 18, 19, 20, 21, 22, 23, 24, 25, 26, 27, 28, 29, 30, 31, 32, 33] (wr := ([] : va_W)) (wN := (wX10 G h0 a0 f0 A0)) rfl rfl rfl rfl rfl hl.1 (Nat.le_of_ble_eq_true rfl) dX10_readsSum_94 (fun H locs hPD hS => ?_)
      refine lv_if_eq (tgt := 138) hx hb dX10_readsSum_97 (by decide) (fun cc1 => ?_) (fun cc1 => ?_)
      · have h := (if_pos cc1).symm.trans h
        exact ww_f10_readsSum_b138 C0 A0 f0 l1 h _ _ _ hPD hS (lv_sub hl [1, 2] rfl)
      · have h := (if_neg cc1).symm.trans h
        refine lv_aload_n hx hb dX10_readsSum_100 rfl (lv_at hl 1 rfl) ?_
        refine lv_iconst (v := 1) hx hb dX10_readsSum_101 (by decide) ?_
        obtain ⟨q_8, hq_8, h⟩ := ob2 h
        refine kVV (As := [.int 1]) (rest := []) C0 (kt_X10_closesSums l G h0 a0 f0 A0 1 hq_8) gi_V_X10_193_X10_closesSums (n := 1) rfl (by decide +kernel) rfl ⟨rfl, rfl, Nat.le_of_ble_eq_true rfl, Nat.le_of_ble_eq_true rfl⟩ hPD hS 0 10 rfl rfl rfl [0, 1, 2, 3, 4, 5, 6, 7, 8, 9, 10, 11, 12, 13, 14, 15, 16, 17, 18, 19, 20, 21, 22, 23, 24, 25, 26, 27, 28, 29, 30, 31, 32, 33] [] [0, 1, 2, 3, 4, 5, 6, 7, 8, 9, 10, 11, 12, 13, 14, 15, 16, 17, 18, 19, 20, 21, 22, 23, 24, 25, 26, 27, 28, 29, 30, 31, 32, 33] (wr := ([] : va_W)) (wN := (wX10 G h0 a0 q_8.2 q_8.1)) rfl rfl rfl rfl rfl hl.1 (Nat.le_of_ble_eq_true rfl) dX10_readsSum_102 (fun H locs hPD hS => ?_)
        refine lv_aload_n hx hb dX10_readsSum_105 rfl (lv_at hl 1 rfl) ?_
        refine lv_aload_n hx hb dX10_readsSum_106 rfl (lv_at hl 1 rfl) ?_
        refine va_get (D := G.1) (ci := 10) (v := .int (q_8.2 15)) (C := RX10) (T := TX10) (N := 52) hx hb hts inlX10 hown hK hPD.1 0 rfl rfl 15 (by decide) (hts _ gw_572) (fun _ h9 => h9) rfl dX10_readsSum_107 ?_
        refine lv_iconst (v := 1) hx hb dX10_readsSum_110 (by decide) ?_
        refine lv_isub hx hb dX10_readsSum_111 ?_
        refine va_put (D := G.1) (ci := 10) (v := .int ((q_8.2 15) - 1)) (ty := .int) (C := RX10) (T := TX10) (N := 52) hx hb hts inlX10 tyX10 tyX10_ok nmX10 hown hK hPD.1 hPD.2 hS 0 rfl rfl 15 (by decide) (hts _ gw_572) (fun _ h9 => h9) rfl (by decide +kernel) rfl rfl (Nat.le_of_ble_eq_true rfl) dX10_readsSum_112 (fun H locs hP hD hS => ?_)
        obtain ⟨f0_9, ef0_9, h⟩ := lvl h
        have hPD : WD G DA (wX10 G h0 a0 f0_9 q_8.1) H := by rw [ef0_9]; exact ⟨hP, hD⟩
        clear ef0_9 hP hD
        refine lv_aload_n hx hb dX10_readsSum_115 rfl (lv_at hl 1 rfl) ?_
        refine lv_aload_n hx hb dX10_readsSum_116 rfl (lv_at hl 1 rfl) ?_
        refine va_get (D := G.1) (ci := 10) (v := .int (f0_9 13)) (C := RX10) (T := TX10) (N := 52) hx hb hts inlX10 hown hK hPD.1 0 rfl rfl 13 (by decide) (hts _ gw_570) (fun _ h9 => h9) rfl dX10_readsSum_117 ?_
        refine lv_iconst (v := 1) hx hb dX10_readsSum_120 (by decide) ?_
        refine lv_isub hx hb dX10_readsSum_121 ?_
        refine va_put (D := G.1) (ci := 10) (v := .int ((f0_9 13) - 1)) (ty := .int) (C := RX10) (T := TX10) (N := 52) hx hb hts inlX10 tyX10 tyX10_ok nmX10 hown hK hPD.1 hPD.2 hS 0 rfl rfl 13 (by decide) (hts _ gw_570) (fun _ h9 => h9) rfl (by decide +kernel) rfl rfl (Nat.le_of_ble_eq_true rfl) dX10_readsSum_122 (fun H locs hP hD hS => ?_)
        obtain ⟨f0_10, ef0_10, h⟩ := lvl h
        have hPD : WD G DA (wX10 G h0 a0 f0_10 q_8.1) H := by rw [ef0_10]; exact ⟨hP, hD⟩
        clear ef0_10 hP hD
        refine lv_aload_n hx hb dX10_readsSum_125 rfl (lv_at hl 1 rfl) ?_
        refine lv_aload_n hx hb dX10_readsSum_126 rfl (lv_at hl 1 rfl) ?_
        refine va_get (D := G.1) (ci := 10) (v := .int (f0_10 9)) (C := RX10) (T := TX10) (N := 52) hx hb hts inlX10 hown hK hPD.1 0 rfl rfl 9 (by decide) (hts _ gw_551) (fun _ h9 => h9) rfl dX10_readsSum_127 ?_
        refine lv_iconst (v := 1) hx hb dX10_readsSum_130 (by decide) ?_
        refine lv_iadd hx hb dX10_readsSum_131 ?_
        refine va_put (D := G.1) (ci := 10) (v := .int ((f0_10 9) + 1)) (ty := .int) (C := RX10) (T := TX10) (N := 52) hx hb hts inlX10 tyX10 tyX10_ok nmX10 hown hK hPD.1 hPD.2 hS 0 rfl rfl 9 (by decide) (hts _ gw_551) (fun _ h9 => h9) rfl (by decide +kernel) rfl rfl (Nat.le_of_ble_eq_true rfl) dX10_readsSum_132 (fun H locs hP hD hS => ?_)
        obtain ⟨f0_11, ef0_11, h⟩ := lvl h
        have hPD : WD G DA (wX10 G h0 a0 f0_11 q_8.1) H := by rw [ef0_11]; exact ⟨hP, hD⟩
        clear ef0_11 hP hD
        refine lv_goto (tgt := 163) hx hb dX10_readsSum_135 (by decide) ?_
        refine lv_goto (tgt := 14) hx hb dX10_readsSum_163 (by decide) ?_
        exact hk14 q_8.1 f0_11 l1 h _ _ _ hPD hS (lv_sub hl [1, 2] rfl)
  · have h := (if_neg cc1).symm.trans h
    refine lv_aload_n hx hb dX10_readsSum_27 rfl (lv_at hl 1 rfl) ?_
    refine lv_iload_n hx hb dX10_readsSum_28 rfl (lv_at hl 0 rfl) ?_
    refine lv_iconst (v := 4) hx hb dX10_readsSum_29 (by decide) ?_
    refine lv_icmp_ge (tgt := 37) hx hb dX10_readsSum_30 (by decide) (fun cc1 => ?_) (fun cc1 => ?_)
    · have h := (if_pos cc1).symm.trans h
      refine lv_iconst (v := 0) hx hb dX10_readsSum_37 (by decide) ?_
      exact ww_f10_readsSum_b38 C0 hk14 A0 f0 l1 (f10_sumSign q_2) 0 h _ _ _ hPD hS (lv_sub hl [1, 2, 0] rfl)
    · have h := (if_neg cc1).symm.trans h
      refine lv_iconst (v := 1) hx hb dX10_readsSum_33 (by decide) ?_
      refine lv_goto (tgt := 38) hx hb dX10_readsSum_34 (by decide) ?_
      exact ww_f10_readsSum_b38 C0 hk14 A0 f0 l1 (f10_sumSign q_2) 1 h _ _ _ hPD hS (lv_sub hl [1, 2, 0] rfl)
set_option maxRecDepth 100000 in
set_option maxHeartbeats 4000000 in
theorem ww_f10_readsSum_l14  (C0 : Cx cX10_readsSum 3 (some .boolean) RX10 p s m args meth c G DA) {h0 : Nat} {a0 : Nat → Nat}   {res : Int32 × (Nat → Nat → Int32) × (Nat → Int32)}  : ∀ (n : Nat) (A0 : Nat → Nat → Int32) (f0 : Nat → Int32) (l1 : Int32), f10_readsSum_l14   n A0 f0 l1 = some res → ∀ (H : Heap) (locs : List Loc) (ls : Array Slot), WD G DA (wX10 G h0 a0 f0 A0) H → va_S DA s.heap H locs → lv_has ls 3 [(0, .ref h0), (1, .int l1)] → W p l e rmX10_readsSum s m args below meth c H locs 0 0 (MQ below (QI G DA res.1 (wX10 G h0 a0 res.2.2 res.2.1)) args s 0 0 DA) (F0 m 14 ls []) := by
  intro n
  induction n with
  | zero => intro A0 f0 l1 h; cases h
  | succ n ih => intro A0 f0 l1 h; exact ww_f10_readsSum_b14 C0  ih A0 f0 l1 h
set_option maxRecDepth 100000 in
set_option maxHeartbeats 4000000 in
theorem kt_X10_readsSum (l : Launch) (G : Gp) (h0 : Nat) (a0 : Nat → Nat) (f0 : Nat → Int32) (A0 : Nat → Nat → Int32) : ∀ {r : Int32 × (Nat → Nat → Int32) × (Nat → Int32)}, f10_readsSum f0 A0 = some r → CtrI l yX10_readsSum cX10_readsSum 3 (some .boolean) rmX10_readsSum G [.ref h0] (wX10 G h0 a0 f0 A0) r.1 (wX10 G h0 a0 r.2.2 r.2.1) := by
  intro res h
  refine ctrI_of (cc := cX10_readsSum) (maxL := 3) (ret := (some .boolean)) (by decide +kernel) rfl (Nat.le_of_ble_eq_true rfl) (fun p e s m below meth c DA C0 hP hD ls hl => ?_)
  have hPD : WD G DA (wX10 G h0 a0 f0 A0) s.heap := ⟨hP, hD⟩
  have hS : va_S DA s.heap s.heap [] := va_S.rf
  have hl : lv_has ls 3 [(0, .ref h0)] := hl
  obtain ⟨hx, hb, hml, hown, hts⟩ := C0.1
  have hK := C0.2.2.2.1
  unfold f10_readsSum at h
  refine lv_aload_n hx hb dX10_readsSum_0 rfl (lv_at hl 0 rfl) ?_
  refine va_get (D := G.1) (ci := 10) (v := .int (f0 15)) (C := RX10) (T := TX10) (N := 52) hx hb hts inlX10 hown hK hPD.1 0 rfl rfl 15 (by decide) (hts _ gw_572) (fun _ h9 => h9) rfl dX10_readsSum_1 ?_
  refine lv_istore_n (lv' := [(1, .int (f0 15)), (0, .ref h0)]) hx hb dX10_readsSum_4 rfl hl (by decide) rfl (fun ls hl => ?_)
  refine lv_aload_n hx hb dX10_readsSum_5 rfl (lv_at hl 1 rfl) ?_
  obtain ⟨q_1, hq_1, h⟩ := ob2 h
  refine kVI (As := []) (rest := []) C0 (kt_X10_readsFactor l G h0 a0 f0 A0 hq_1) gi_V_X10_187_X10_readsFactor (n := 0) rfl (by decide +kernel) rfl ⟨rfl, rfl, Nat.le_of_ble_eq_true rfl, Nat.le_of_ble_eq_true rfl⟩ hPD hS 0 10 rfl rfl rfl [0, 1, 2, 3, 4, 5, 6, 7, 8, 9, 10, 11, 12, 13, 14, 15, 16, 17, 18, 19, 20, 21, 22, 23, 24, 25, 26, 27, 28, 29, 30, 31, 32, 33] [] [0, 1, 2, 3, 4, 5, 6, 7, 8, 9, 10, 11, 12, 13, 14, 15, 16, 17, 18, 19, 20, 21, 22, 23, 24, 25, 26, 27, 28, 29, 30, 31, 32, 33] (wr := ([] : va_W)) (wN := (wX10 G h0 a0 q_1.2.2 q_1.2.1)) rfl rfl rfl rfl rfl hl.1 (Nat.le_of_ble_eq_true rfl) dX10_readsSum_6 (fun H locs hPD hS => ?_)
  refine lv_if_ne (tgt := 14) hx hb dX10_readsSum_9 (by decide) (fun cc1 => ?_) (fun cc1 => ?_)
  · have h := (if_neg cc1).symm.trans h
    exact ww_f10_readsSum_l14 C0 NF q_1.2.1 q_1.2.2 (f0 15) h _ _ _ hPD hS (lv_sub hl [1, 0] rfl)
  · have h := (if_pos cc1).symm.trans h
    refine lv_iconst (v := 0) hx hb dX10_readsSum_12 (by decide) ?_
    obtain rfl := Option.some.inj h
    exact eZ C0 hPD.1 hPD.2 hS rfl rfl dX10_readsSum_13
abbrev rmX10_endsPiece : Room := { frames := 1, cells := 0, slots := 0, locals := 22 }
set_option maxRecDepth 100000 in
set_option maxHeartbeats 4000000 in
theorem ww_f10_endsPiece_b0  (C0 : Cx cX10_endsPiece 1 none RX10 p s m args meth c G DA) {h0 : Nat} {a0 : Nat → Nat}  {k0 : (Nat → Nat → Int32) → (Nat → Int32) → Option ((Nat → Nat → Int32) × (Nat → Int32))} {res : (Nat → Nat → Int32) × (Nat → Int32)}  (hk0 : ∀ (A0 : Nat → Nat → Int32) (f0 : Nat → Int32), k0 A0 f0 = some res → ∀ (H : Heap) (locs : List Loc) (ls : Array Slot), WD G DA (wX10 G h0 a0 f0 A0) H → va_S DA s.heap H locs → lv_has ls 1 [(0, .ref h0)] → W p l e rmX10_endsPiece s m args below meth c H locs 0 0 (MQ below (QV G DA (wX10 G h0 a0 res.2 res.1)) args s 0 0 DA) (F0 m 0 ls [])) : ∀ (A0 : Nat → Nat → Int32) (f0 : Nat → Int32), f10_endsPiece_b0   k0 A0 f0 = some res → ∀ (H : Heap) (locs : List Loc) (ls : Array Slot), WD G DA (wX10 G h0 a0 f0 A0) H → va_S DA s.heap H locs → lv_has ls 1 [(0, .ref h0)] → W p l e rmX10_endsPiece s m args below meth c H locs 0 0 (MQ below (QV G DA (wX10 G h0 a0 res.2 res.1)) args s 0 0 DA) (F0 m 0 ls []) := by
  obtain ⟨hx, hb, hml, hown, hts⟩ := C0.1
  have hK := C0.2.2.2.1
  intro A0 f0 h _ _ _ hPD hS hl
  unfold f10_endsPiece_b0 at h
  refine lv_aload_n hx hb dX10_endsPiece_0 rfl (lv_at hl 0 rfl) ?_
  obtain ⟨q_1, hq_1, h⟩ := ob2 h
  refine kVI (As := []) (rest := []) C0 (kt_X10_waitTop l G h0 a0 f0 A0 hq_1) gi_V_X10_170_X10_waitTop (n := 0) rfl (by decide +kernel) rfl ⟨rfl, rfl, Nat.le_of_ble_eq_true rfl, Nat.le_of_ble_eq_true rfl⟩ hPD hS 0 10 rfl rfl rfl [0, 1, 2, 3, 4, 5, 6, 7, 8, 9, 10, 11, 12, 13, 14, 15, 16, 17, 18, 19, 20, 21, 22, 23, 24, 25, 26, 27, 28, 29, 30, 31, 32, 33] [] [0, 1, 2, 3, 4, 5, 6, 7, 8, 9, 10, 11, 12, 13, 14, 15, 16, 17, 18, 19, 20, 21, 22, 23, 24, 25, 26, 27, 28, 29, 30, 31, 32, 33] (wr := ([] : va_W)) (wN := (wX10 G h0 a0 f0 A0)) rfl rfl rfl rfl rfl hl.1 (Nat.le_of_ble_eq_true rfl) dX10_endsPiece_1 (fun H locs hPD hS => ?_)
  refine lv_bipush (v := 10) hx hb dX10_endsPiece_4 (by decide) ?_
  refine lv_icmp_ne (tgt := 39) hx hb dX10_endsPiece_6 (by decide) (fun cc1 => ?_) (fun cc1 => ?_)
  · have h := (if_neg cc1).symm.trans h
    obtain rfl := Option.some.inj h
    exact eV C0 hPD.1 hPD.2 hS dX10_endsPiece_39
  · have h := (if_pos cc1).symm.trans h
    refine lv_aload_n hx hb dX10_endsPiece_9 rfl (lv_at hl 0 rfl) ?_
    refine lv_bipush (v := 10) hx hb dX10_endsPiece_10 (by decide) ?_
    refine lv_iconst (v := 0) hx hb dX10_endsPiece_12 (by decide) ?_
    obtain ⟨q_2, hq_2, h⟩ := ob2 h
    refine kVV (As := [.int 10, .int 0]) (rest := []) C0 (kt_X10_notes l G h0 a0 f0 A0 10 0 hq_2) gi_V_X10_173_X10_notes (n := 2) rfl (by decide +kernel) rfl ⟨rfl, rfl, Nat.le_of_ble_eq_true rfl, Nat.le_of_ble_eq_true rfl⟩ hPD hS 0 10 rfl rfl rfl [0, 1, 2, 3, 4, 5, 6, 7, 8, 9, 10, 11, 12, 13, 14, 15, 16, 17, 18, 19, 20, 21, 22, 23, 24, 25, 26, 27, 28, 29, 30, 31, 32, 33] [] [0, 1, 2, 3, 4, 5, 6, 7, 8, 9, 10, 11, 12, 13, 14, 15, 16, 17, 18, 19, 20, 21, 22, 23, 24, 25, 26, 27, 28, 29, 30, 31, 32, 33] (wr := ([] : va_W)) (wN := (wX10 G h0 a0 q_2.2 q_2.1)) rfl rfl rfl rfl rfl hl.1 (Nat.le_of_ble_eq_true rfl) dX10_endsPiece_13 (fun H locs hPD hS => ?_)
    refine lv_aload_n hx hb dX10_endsPiece_16 rfl (lv_at hl 0 rfl) ?_
    refine lv_aload_n hx hb dX10_endsPiece_17 rfl (lv_at hl 0 rfl) ?_
    refine va_get (D := G.1) (ci := 10) (v := .int (q_2.2 15)) (C := RX10) (T := TX10) (N := 52) hx hb hts inlX10 hown hK hPD.1 0 rfl rfl 15 (by decide) (hts _ gw_572) (fun _ h9 => h9) rfl dX10_endsPiece_18 ?_
    refine lv_iconst (v := 1) hx hb dX10_endsPiece_21 (by decide) ?_
    refine lv_isub hx hb dX10_endsPiece_22 ?_
    refine va_put (D := G.1) (ci := 10) (v := .int ((q_2.2 15) - 1)) (ty := .int) (C := RX10) (T := TX10) (N := 52) hx hb hts inlX10 tyX10 tyX10_ok nmX10 hown hK hPD.1 hPD.2 hS 0 rfl rfl 15 (by decide) (hts _ gw_572) (fun _ h9 => h9) rfl (by decide +kernel) rfl rfl (Nat.le_of_ble_eq_true rfl) dX10_endsPiece_23 (fun H locs hP hD hS => ?_)
    obtain ⟨f0_3, ef0_3, h⟩ := lvl h
    have hPD : WD G DA (wX10 G h0 a0 f0_3 q_2.1) H := by rw [ef0_3]; exact ⟨hP, hD⟩
    clear ef0_3 hP hD
    refine lv_aload_n hx hb dX10_endsPiece_26 rfl (lv_at hl 0 rfl) ?_
    refine lv_aload_n hx hb dX10_endsPiece_27 rfl (lv_at hl 0 rfl) ?_
    refine va_get (D := G.1) (ci := 10) (v := .int (f0_3 13)) (C := RX10) (T := TX10) (N := 52) hx hb hts inlX10 hown hK hPD.1 0 rfl rfl 13 (by decide) (hts _ gw_570) (fun _ h9 => h9) rfl dX10_endsPiece_28 ?_
    refine lv_iconst (v := 1) hx hb dX10_endsPiece_31 (by decide) ?_
    refine lv_isub hx hb dX10_endsPiece_32 ?_
    refine va_put (D := G.1) (ci := 10) (v := .int ((f0_3 13) - 1)) (ty := .int) (C := RX10) (T := TX10) (N := 52) hx hb hts inlX10 tyX10 tyX10_ok nmX10 hown hK hPD.1 hPD.2 hS 0 rfl rfl 13 (by decide) (hts _ gw_570) (fun _ h9 => h9) rfl (by decide +kernel) rfl rfl (Nat.le_of_ble_eq_true rfl) dX10_endsPiece_33 (fun H locs hP hD hS => ?_)
    obtain ⟨f0_4, ef0_4, h⟩ := lvl h
    have hPD : WD G DA (wX10 G h0 a0 f0_4 q_2.1) H := by rw [ef0_4]; exact ⟨hP, hD⟩
    clear ef0_4 hP hD
    refine lv_goto (tgt := 0) hx hb dX10_endsPiece_36 (by decide) ?_
    exact hk0 q_2.1 f0_4 h _ _ _ hPD hS (lv_sub hl [0] rfl)
set_option maxRecDepth 100000 in
set_option maxHeartbeats 4000000 in
theorem ww_f10_endsPiece_l0  (C0 : Cx cX10_endsPiece 1 none RX10 p s m args meth c G DA) {h0 : Nat} {a0 : Nat → Nat}   {res : (Nat → Nat → Int32) × (Nat → Int32)}  : ∀ (n : Nat) (A0 : Nat → Nat → Int32) (f0 : Nat → Int32), f10_endsPiece_l0   n A0 f0 = some res → ∀ (H : Heap) (locs : List Loc) (ls : Array Slot), WD G DA (wX10 G h0 a0 f0 A0) H → va_S DA s.heap H locs → lv_has ls 1 [(0, .ref h0)] → W p l e rmX10_endsPiece s m args below meth c H locs 0 0 (MQ below (QV G DA (wX10 G h0 a0 res.2 res.1)) args s 0 0 DA) (F0 m 0 ls []) := by
  intro n
  induction n with
  | zero => intro A0 f0 h; cases h
  | succ n ih => intro A0 f0 h; exact ww_f10_endsPiece_b0 C0  ih A0 f0 h
set_option maxRecDepth 100000 in
set_option maxHeartbeats 4000000 in
theorem kt_X10_endsPiece (l : Launch) (G : Gp) (h0 : Nat) (a0 : Nat → Nat) (f0 : Nat → Int32) (A0 : Nat → Nat → Int32) : ∀ {r : (Nat → Nat → Int32) × (Nat → Int32)}, f10_endsPiece f0 A0 = some r → CtrV l yX10_endsPiece cX10_endsPiece 1 none rmX10_endsPiece G [.ref h0] (wX10 G h0 a0 f0 A0) (wX10 G h0 a0 r.2 r.1) := by
  intro res h
  refine ctrV_of (cc := cX10_endsPiece) (maxL := 1) (ret := none) (by decide +kernel) rfl (Nat.le_of_ble_eq_true rfl) (fun p e s m below meth c DA C0 hP hD ls hl => ?_)
  have hPD : WD G DA (wX10 G h0 a0 f0 A0) s.heap := ⟨hP, hD⟩
  have hS : va_S DA s.heap s.heap [] := va_S.rf
  have hl : lv_has ls 1 [(0, .ref h0)] := hl
  obtain ⟨hx, hb, hml, hown, hts⟩ := C0.1
  have hK := C0.2.2.2.1
  unfold f10_endsPiece at h
  exact ww_f10_endsPiece_l0 C0 NF A0 f0 h _ _ _ hPD hS (lv_sub hl [0] rfl)
abbrev rmX10_lands : Room := { frames := 1, cells := 0, slots := 0, locals := 20 }
set_option maxRecDepth 100000 in
set_option maxHeartbeats 4000000 in
theorem ww_f10_lands_b22  (C0 : Cx cX10_lands 3 none RX10 p s m args meth c G DA) {h0 : Nat} {a0 : Nat → Nat} {p1 : Int32}  {k0 : (Nat → Nat → Int32) → (Nat → Int32) → Option ((Nat → Nat → Int32) × (Nat → Int32))} {res : (Nat → Nat → Int32) × (Nat → Int32)} (hk0 : ∀ (A0 : Nat → Nat → Int32) (f0 : Nat → Int32), k0 A0 f0 = some res → ∀ (H : Heap) (locs : List Loc) (ls : Array Slot), WD G DA (wX10 G h0 a0 f0 A0) H → va_S DA s.heap H locs → lv_has ls 3 [(0, .ref h0), (1, .int p1)] → W p l e rmX10_lands s m args below meth c H locs 0 0 (MQ below (QV G DA (wX10 G h0 a0 res.2 res.1)) args s 0 0 DA) (F0 m 0 ls [])) : ∀ (A0 : Nat → Nat → Int32) (f0 : Nat → Int32), f10_lands_b22 p1 k0 A0 f0 = some res → ∀ (H : Heap) (locs : List Loc) (ls : Array Slot), WD G DA (wX10 G h0 a0 f0 A0) H → va_S DA s.heap H locs → lv_has ls 3 [(0, .ref h0), (1, .int p1)] → W p l e rmX10_lands s m args below meth c H locs 0 0 (MQ below (QV G DA (wX10 G h0 a0 res.2 res.1)) args s 0 0 DA) (F0 m 22 ls []) := by
  obtain ⟨hx, hb, hml, hown, hts⟩ := C0.1
  have hK := C0.2.2.2.1
  intro A0 f0 h _ _ _ hPD hS hl
  unfold f10_lands_b22 at h
  refine lv_aload_n hx hb dX10_lands_22 rfl (lv_at hl 0 rfl) ?_
  refine va_get (D := G.1) (ci := 10) (v := .ref (a0 19)) (C := RX10) (T := TX10) (N := 52) hx hb hts inlX10 hown hK hPD.1 0 rfl rfl 19 (by decide) (hts _ gw_571) (fun _ h9 => h9) rfl dX10_lands_23 ?_
  refine lv_aload_n hx hb dX10_lands_26 rfl (lv_at hl 0 rfl) ?_
  refine va_get (D := G.1) (ci := 10) (v := .int (f0 15)) (C := RX10) (T := TX10) (N := 52) hx hb hts inlX10 hown hK hPD.1 0 rfl rfl 15 (by decide) (hts _ gw_572) (fun _ h9 => h9) rfl dX10_lands_27 ?_
  refine lv_iconst (v := 1) hx hb dX10_lands_30 (by decide) ?_
  refine lv_isub hx hb dX10_lands_31 ?_
  obtain ⟨hi_2, h⟩ := ob h
  refine va_iald hx hb hK hPD.1 9 1 rfl rfl hi_2 dX10_lands_32 ?_
  refine lv_ldc (v := 1048576) hx hb hown (hts _ gw_569) dX10_lands_33 ?_
  refine lv_irem hx hb dX10_lands_35 (by decide) ?_
  refine lv_istore_n (lv' := [(2, .int (irm (gx (A0 19) ((f0 15) - 1)) 1048576)), (0, .ref h0), (1, .int p1)]) hx hb dX10_lands_36 rfl hl (by decide) rfl (fun ls hl => ?_)
  refine lv_aload_n hx hb dX10_lands_37 rfl (lv_at hl 1 rfl) ?_
  refine va_get (D := G.1) (ci := 10) (v := .ref (a0 18)) (C := RX10) (T := TX10) (N := 52) hx hb hts inlX10 hown hK hPD.1 0 rfl rfl 18 (by decide) (hts _ gw_567) (fun _ h9 => h9) rfl dX10_lands_38 ?_
  refine lv_iload_n hx hb dX10_lands_41 rfl (lv_at hl 0 rfl) ?_
  refine lv_ldc (v := 1048576) hx hb hown (hts _ gw_569) dX10_lands_42 ?_
  refine lv_aload_n hx hb dX10_lands_44 rfl (lv_at hl 1 rfl) ?_
  refine va_get (D := G.1) (ci := 10) (v := .ref (a0 18)) (C := RX10) (T := TX10) (N := 52) hx hb hts inlX10 hown hK hPD.1 0 rfl rfl 18 (by decide) (hts _ gw_567) (fun _ h9 => h9) rfl dX10_lands_45 ?_
  refine lv_iload_n hx hb dX10_lands_48 rfl (lv_at hl 0 rfl) ?_
  obtain ⟨hi_3, h⟩ := ob h
  refine va_iald hx hb hK hPD.1 8 1 rfl rfl hi_3 dX10_lands_49 ?_
  refine lv_ldc (v := 1048576) hx hb hown (hts _ gw_569) dX10_lands_50 ?_
  refine lv_idiv hx hb dX10_lands_52 (by decide) ?_
  refine lv_imul hx hb dX10_lands_53 ?_
  refine lv_aload_n hx hb dX10_lands_54 rfl (lv_at hl 1 rfl) ?_
  refine va_get (D := G.1) (ci := 10) (v := .int (f0 14)) (C := RX10) (T := TX10) (N := 52) hx hb hts inlX10 hown hK hPD.1 0 rfl rfl 14 (by decide) (hts _ gw_568) (fun _ h9 => h9) rfl dX10_lands_55 ?_
  refine lv_iadd hx hb dX10_lands_58 ?_
  obtain ⟨hi_4, h⟩ := ob h
  refine va_iast hx hb hK hPD.1 hPD.2 hS 8 1 rfl rfl hi_4 dX10_lands_59 (fun H locs hP hD hS => ?_)
  obtain ⟨A0_5, eA0_5, h⟩ := lvl h
  have hPD : WD G DA (wX10 G h0 a0 f0 A0_5) H := by rw [eA0_5]; exact ⟨hP, hD⟩
  clear eA0_5 hP hD
  refine lv_aload_n hx hb dX10_lands_60 rfl (lv_at hl 1 rfl) ?_
  refine lv_aload_n hx hb dX10_lands_61 rfl (lv_at hl 1 rfl) ?_
  refine va_get (D := G.1) (ci := 10) (v := .int (f0 15)) (C := RX10) (T := TX10) (N := 52) hx hb hts inlX10 hown hK hPD.1 0 rfl rfl 15 (by decide) (hts _ gw_572) (fun _ h9 => h9) rfl dX10_lands_62 ?_
  refine lv_iconst (v := 1) hx hb dX10_lands_65 (by decide) ?_
  refine lv_isub hx hb dX10_lands_66 ?_
  refine va_put (D := G.1) (ci := 10) (v := .int ((f0 15) - 1)) (ty := .int) (C := RX10) (T := TX10) (N := 52) hx hb hts inlX10 tyX10 tyX10_ok nmX10 hown hK hPD.1 hPD.2 hS 0 rfl rfl 15 (by decide) (hts _ gw_572) (fun _ h9 => h9) rfl (by decide +kernel) rfl rfl (Nat.le_of_ble_eq_true rfl) dX10_lands_67 (fun H locs hP hD hS => ?_)
  obtain ⟨f0_6, ef0_6, h⟩ := lvl h
  have hPD : WD G DA (wX10 G h0 a0 f0_6 A0_5) H := by rw [ef0_6]; exact ⟨hP, hD⟩
  clear ef0_6 hP hD
  refine lv_goto (tgt := 0) hx hb dX10_lands_70 (by decide) ?_
  exact hk0 A0_5 f0_6 h _ _ _ hPD hS (lv_sub hl [1, 2] rfl)
set_option maxRecDepth 100000 in
set_option maxHeartbeats 4000000 in
theorem ww_f10_lands_b0  (C0 : Cx cX10_lands 3 none RX10 p s m args meth c G DA) {h0 : Nat} {a0 : Nat → Nat} {p1 : Int32}  {k0 : (Nat → Nat → Int32) → (Nat → Int32) → Option ((Nat → Nat → Int32) × (Nat → Int32))} {res : (Nat → Nat → Int32) × (Nat → Int32)}  (hk0 : ∀ (A0 : Nat → Nat → Int32) (f0 : Nat → Int32), k0 A0 f0 = some res → ∀ (H : Heap) (locs : List Loc) (ls : Array Slot), WD G DA (wX10 G h0 a0 f0 A0) H → va_S DA s.heap H locs → lv_has ls 3 [(0, .ref h0), (1, .int p1)] → W p l e rmX10_lands s m args below meth c H locs 0 0 (MQ below (QV G DA (wX10 G h0 a0 res.2 res.1)) args s 0 0 DA) (F0 m 0 ls [])) : ∀ (A0 : Nat → Nat → Int32) (f0 : Nat → Int32), f10_lands_b0 p1  k0 A0 f0 = some res → ∀ (H : Heap) (locs : List Loc) (ls : Array Slot), WD G DA (wX10 G h0 a0 f0 A0) H → va_S DA s.heap H locs → lv_has ls 3 [(0, .ref h0), (1, .int p1)] → W p l e rmX10_lands s m args below meth c H locs 0 0 (MQ below (QV G DA (wX10 G h0 a0 res.2 res.1)) args s 0 0 DA) (F0 m 0 ls []) := by
  obtain ⟨hx, hb, hml, hown, hts⟩ := C0.1
  have hK := C0.2.2.2.1
  intro A0 f0 h _ _ _ hPD hS hl
  unfold f10_lands_b0 at h
  refine lv_aload_n hx hb dX10_lands_0 rfl (lv_at hl 0 rfl) ?_
  obtain ⟨q_1, hq_1, h⟩ := ob2 h
  refine kVI (As := []) (rest := []) C0 (kt_X10_waitTop l G h0 a0 f0 A0 hq_1) gi_V_X10_170_X10_waitTop (n := 0) rfl (by decide +kernel) rfl ⟨rfl, rfl, Nat.le_of_ble_eq_true rfl, Nat.le_of_ble_eq_true rfl⟩ hPD hS 0 10 rfl rfl rfl [0, 1, 2, 3, 4, 5, 6, 7, 8, 9, 10, 11, 12, 13, 14, 15, 16, 17, 18, 19, 20, 21, 22, 23, 24, 25, 26, 27, 28, 29, 30, 31, 32, 33] [] [0, 1, 2, 3, 4, 5, 6, 7, 8, 9, 10, 11, 12, 13, 14, 15, 16, 17, 18, 19, 20, 21, 22, 23, 24, 25, 26, 27, 28, 29, 30, 31, 32, 33] (wr := ([] : va_W)) (wN := (wX10 G h0 a0 f0 A0)) rfl rfl rfl rfl rfl hl.1 (Nat.le_of_ble_eq_true rfl) dX10_lands_1 (fun H locs hPD hS => ?_)
  refine lv_bipush (v := 11) hx hb dX10_lands_4 (by decide) ?_
  refine lv_icmp_eq (tgt := 22) hx hb dX10_lands_6 (by decide) (fun cc1 => ?_) (fun cc1 => ?_)
  · have h := (if_pos cc1).symm.trans h
    exact ww_f10_lands_b22 C0 hk0 A0 f0 h _ _ _ hPD hS (lv_sub hl [0, 1] rfl)
  · have h := (if_neg cc1).symm.trans h
    refine lv_iload_n hx hb dX10_lands_9 rfl (lv_at hl 1 rfl) ?_
    refine lv_if_eq (tgt := 73) hx hb dX10_lands_10 (by decide) (fun cc1 => ?_) (fun cc1 => ?_)
    · have h := (if_pos cc1).symm.trans h
      obtain rfl := Option.some.inj h
      exact eV C0 hPD.1 hPD.2 hS dX10_lands_73
    · have h := (if_neg cc1).symm.trans h
      refine lv_aload_n hx hb dX10_lands_13 rfl (lv_at hl 0 rfl) ?_
      obtain ⟨q_7, hq_7, h⟩ := ob2 h
      refine kVI (As := []) (rest := []) C0 (kt_X10_waitTop l G h0 a0 f0 A0 hq_7) gi_V_X10_170_X10_waitTop (n := 0) rfl (by decide +kernel) rfl ⟨rfl, rfl, Nat.le_of_ble_eq_true rfl, Nat.le_of_ble_eq_true rfl⟩ hPD hS 0 10 rfl rfl rfl [0, 1, 2, 3, 4, 5, 6, 7, 8, 9, 10, 11, 12, 13, 14, 15, 16, 17, 18, 19, 20, 21, 22, 23, 24, 25, 26, 27, 28, 29, 30, 31, 32, 33] [] [0, 1, 2, 3, 4, 5, 6, 7, 8, 9, 10, 11, 12, 13, 14, 15, 16, 17, 18, 19, 20, 21, 22, 23, 24, 25, 26, 27, 28, 29, 30, 31, 32, 33] (wr := ([] : va_W)) (wN := (wX10 G h0 a0 f0 A0)) rfl rfl rfl rfl rfl hl.1 (Nat.le_of_ble_eq_true rfl) dX10_lands_14 (fun H locs hPD hS => ?_)
      refine lv_bipush (v := 12) hx hb dX10_lands_17 (by decide) ?_
      refine lv_icmp_ne (tgt := 73) hx hb dX10_lands_19 (by decide) (fun cc1 => ?_) (fun cc1 => ?_)
      · have h := (if_neg cc1).symm.trans h
        obtain rfl := Option.some.inj h
        exact eV C0 hPD.1 hPD.2 hS dX10_lands_73
      · have h := (if_pos cc1).symm.trans h
        exact ww_f10_lands_b22 C0 hk0 A0 f0 h _ _ _ hPD hS (lv_sub hl [0, 1] rfl)
set_option maxRecDepth 100000 in
set_option maxHeartbeats 4000000 in
theorem ww_f10_lands_l0  (C0 : Cx cX10_lands 3 none RX10 p s m args meth c G DA) {h0 : Nat} {a0 : Nat → Nat} {p1 : Int32}   {res : (Nat → Nat → Int32) × (Nat → Int32)}  : ∀ (n : Nat) (A0 : Nat → Nat → Int32) (f0 : Nat → Int32), f10_lands_l0 p1  n A0 f0 = some res → ∀ (H : Heap) (locs : List Loc) (ls : Array Slot), WD G DA (wX10 G h0 a0 f0 A0) H → va_S DA s.heap H locs → lv_has ls 3 [(0, .ref h0), (1, .int p1)] → W p l e rmX10_lands s m args below meth c H locs 0 0 (MQ below (QV G DA (wX10 G h0 a0 res.2 res.1)) args s 0 0 DA) (F0 m 0 ls []) := by
  intro n
  induction n with
  | zero => intro A0 f0 h; cases h
  | succ n ih => intro A0 f0 h; exact ww_f10_lands_b0 C0  ih A0 f0 h
set_option maxRecDepth 100000 in
set_option maxHeartbeats 4000000 in
theorem kt_X10_lands (l : Launch) (G : Gp) (h0 : Nat) (a0 : Nat → Nat) (f0 : Nat → Int32) (A0 : Nat → Nat → Int32) (p1 : Int32) : ∀ {r : (Nat → Nat → Int32) × (Nat → Int32)}, f10_lands f0 A0 p1 = some r → CtrV l yX10_lands cX10_lands 3 none rmX10_lands G [.ref h0, .int p1] (wX10 G h0 a0 f0 A0) (wX10 G h0 a0 r.2 r.1) := by
  intro res h
  refine ctrV_of (cc := cX10_lands) (maxL := 3) (ret := none) (by decide +kernel) rfl (Nat.le_of_ble_eq_true rfl) (fun p e s m below meth c DA C0 hP hD ls hl => ?_)
  have hPD : WD G DA (wX10 G h0 a0 f0 A0) s.heap := ⟨hP, hD⟩
  have hS : va_S DA s.heap s.heap [] := va_S.rf
  have hl : lv_has ls 3 [(0, .ref h0), (1, .int p1)] := hl
  obtain ⟨hx, hb, hml, hown, hts⟩ := C0.1
  have hK := C0.2.2.2.1
  unfold f10_lands at h
  exact ww_f10_lands_l0 C0 NF A0 f0 h _ _ _ hPD hS (lv_sub hl [0, 1] rfl)
abbrev rmX10_jumps : Room := { frames := 1, cells := 0, slots := 0, locals := 22 }
set_option maxRecDepth 100000 in
set_option maxHeartbeats 4000000 in
theorem kt_X10_jumps (l : Launch) (G : Gp) (h0 : Nat) (a0 : Nat → Nat) (f0 : Nat → Int32) (A0 : Nat → Nat → Int32) (p1 : Int32) : ∀ {r : (Nat → Nat → Int32) × (Nat → Int32)}, f10_jumps f0 A0 p1 = some r → CtrV l yX10_jumps cX10_jumps 2 none rmX10_jumps G [.ref h0, .int p1] (wX10 G h0 a0 f0 A0) (wX10 G h0 a0 r.2 r.1) := by
  intro res h
  refine ctrV_of (cc := cX10_jumps) (maxL := 2) (ret := none) (by decide +kernel) rfl (Nat.le_of_ble_eq_true rfl) (fun p e s m below meth c DA C0 hP hD ls hl => ?_)
  have hPD : WD G DA (wX10 G h0 a0 f0 A0) s.heap := ⟨hP, hD⟩
  have hS : va_S DA s.heap s.heap [] := va_S.rf
  have hl : lv_has ls 2 [(0, .ref h0), (1, .int p1)] := hl
  obtain ⟨hx, hb, hml, hown, hts⟩ := C0.1
  have hK := C0.2.2.2.1
  unfold f10_jumps at h
  refine lv_aload_n hx hb dX10_jumps_0 rfl (lv_at hl 0 rfl) ?_
  refine va_get (D := G.1) (ci := 10) (v := .ref (a0 19)) (C := RX10) (T := TX10) (N := 52) hx hb hts inlX10 hown hK hPD.1 0 rfl rfl 19 (by decide) (hts _ gw_571) (fun _ h9 => h9) rfl dX10_jumps_1 ?_
  refine lv_aload_n hx hb dX10_jumps_4 rfl (lv_at hl 0 rfl) ?_
  refine va_get (D := G.1) (ci := 10) (v := .int (f0 15)) (C := RX10) (T := TX10) (N := 52) hx hb hts inlX10 hown hK hPD.1 0 rfl rfl 15 (by decide) (hts _ gw_572) (fun _ h9 => h9) rfl dX10_jumps_5 ?_
  refine lv_ldc (v := 1048576) hx hb hown (hts _ gw_569) dX10_jumps_8 ?_
  refine lv_iload_n hx hb dX10_jumps_10 rfl (lv_at hl 1 rfl) ?_
  refine lv_imul hx hb dX10_jumps_11 ?_
  refine lv_aload_n hx hb dX10_jumps_12 rfl (lv_at hl 0 rfl) ?_
  refine va_get (D := G.1) (ci := 10) (v := .int (f0 14)) (C := RX10) (T := TX10) (N := 52) hx hb hts inlX10 hown hK hPD.1 0 rfl rfl 14 (by decide) (hts _ gw_568) (fun _ h9 => h9) rfl dX10_jumps_13 ?_
  refine lv_iadd hx hb dX10_jumps_16 ?_
  obtain ⟨hi_1, h⟩ := ob h
  refine va_iast hx hb hK hPD.1 hPD.2 hS 9 1 rfl rfl hi_1 dX10_jumps_17 (fun H locs hP hD hS => ?_)
  obtain ⟨A0_2, eA0_2, h⟩ := lvl h
  have hPD : WD G DA (wX10 G h0 a0 f0 A0_2) H := by rw [eA0_2]; exact ⟨hP, hD⟩
  clear eA0_2 hP hD
  refine lv_aload_n hx hb dX10_jumps_18 rfl (lv_at hl 0 rfl) ?_
  refine lv_aload_n hx hb dX10_jumps_19 rfl (lv_at hl 0 rfl) ?_
  refine va_get (D := G.1) (ci := 10) (v := .int (f0 15)) (C := RX10) (T := TX10) (N := 52) hx hb hts inlX10 hown hK hPD.1 0 rfl rfl 15 (by decide) (hts _ gw_572) (fun _ h9 => h9) rfl dX10_jumps_20 ?_
  refine lv_iconst (v := 1) hx hb dX10_jumps_23 (by decide) ?_
  refine lv_iadd hx hb dX10_jumps_24 ?_
  refine va_put (D := G.1) (ci := 10) (v := .int ((f0 15) + 1)) (ty := .int) (C := RX10) (T := TX10) (N := 52) hx hb hts inlX10 tyX10 tyX10_ok nmX10 hown hK hPD.1 hPD.2 hS 0 rfl rfl 15 (by decide) (hts _ gw_572) (fun _ h9 => h9) rfl (by decide +kernel) rfl rfl (Nat.le_of_ble_eq_true rfl) dX10_jumps_25 (fun H locs hP hD hS => ?_)
  obtain ⟨f0_3, ef0_3, h⟩ := lvl h
  have hPD : WD G DA (wX10 G h0 a0 f0_3 A0_2) H := by rw [ef0_3]; exact ⟨hP, hD⟩
  clear ef0_3 hP hD
  refine lv_aload_n hx hb dX10_jumps_28 rfl (lv_at hl 0 rfl) ?_
  refine lv_iload_n hx hb dX10_jumps_29 rfl (lv_at hl 1 rfl) ?_
  refine lv_iconst (v := 0) hx hb dX10_jumps_30 (by decide) ?_
  obtain ⟨q_4, hq_4, h⟩ := ob2 h
  refine kVV (As := [.int p1, .int 0]) (rest := []) C0 (kt_X10_notes l G h0 a0 f0_3 A0_2 p1 0 hq_4) gi_V_X10_173_X10_notes (n := 2) rfl (by decide +kernel) rfl ⟨rfl, rfl, Nat.le_of_ble_eq_true rfl, Nat.le_of_ble_eq_true rfl⟩ hPD hS 0 10 rfl rfl rfl [0, 1, 2, 3, 4, 5, 6, 7, 8, 9, 10, 11, 12, 13, 14, 15, 16, 17, 18, 19, 20, 21, 22, 23, 24, 25, 26, 27, 28, 29, 30, 31, 32, 33] [] [0, 1, 2, 3, 4, 5, 6, 7, 8, 9, 10, 11, 12, 13, 14, 15, 16, 17, 18, 19, 20, 21, 22, 23, 24, 25, 26, 27, 28, 29, 30, 31, 32, 33] (wr := ([] : va_W)) (wN := (wX10 G h0 a0 q_4.2 q_4.1)) rfl rfl rfl rfl rfl hl.1 (Nat.le_of_ble_eq_true rfl) dX10_jumps_31 (fun H locs hPD hS => ?_)
  refine lv_aload_n hx hb dX10_jumps_34 rfl (lv_at hl 0 rfl) ?_
  refine lv_aload_n hx hb dX10_jumps_35 rfl (lv_at hl 0 rfl) ?_
  refine va_get (D := G.1) (ci := 10) (v := .int (q_4.2 9)) (C := RX10) (T := TX10) (N := 52) hx hb hts inlX10 hown hK hPD.1 0 rfl rfl 9 (by decide) (hts _ gw_551) (fun _ h9 => h9) rfl dX10_jumps_36 ?_
  refine lv_iconst (v := 1) hx hb dX10_jumps_39 (by decide) ?_
  refine lv_iadd hx hb dX10_jumps_40 ?_
  refine va_put (D := G.1) (ci := 10) (v := .int ((q_4.2 9) + 1)) (ty := .int) (C := RX10) (T := TX10) (N := 52) hx hb hts inlX10 tyX10 tyX10_ok nmX10 hown hK hPD.1 hPD.2 hS 0 rfl rfl 9 (by decide) (hts _ gw_551) (fun _ h9 => h9) rfl (by decide +kernel) rfl rfl (Nat.le_of_ble_eq_true rfl) dX10_jumps_41 (fun H locs hP hD hS => ?_)
  obtain ⟨f0_5, ef0_5, h⟩ := lvl h
  have hPD : WD G DA (wX10 G h0 a0 f0_5 q_4.1) H := by rw [ef0_5]; exact ⟨hP, hD⟩
  clear ef0_5 hP hD
  obtain rfl := Option.some.inj h
  exact eV C0 hPD.1 hPD.2 hS dX10_jumps_44
end WALK
