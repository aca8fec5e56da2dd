section WALK
variable {p : Program} {l : Launch} {e : Env} {s : State} {m : MethodId} {args : Array Value} {below : List Frame} {meth : Method} {c : Code} {G : Gp} {DA : Nat → Prop}
abbrev rmX10_readsStep : Room := { frames := 2, cells := 0, slots := 0, locals := 47 }
set_option maxRecDepth 100000 in
set_option maxHeartbeats 4000000 in
theorem ww_f10_readsStep_b218  (C0 : Cx cX10_readsStep 4 (some .boolean) RX10 p s m args meth c G DA) {h0 : Nat} {a0 : Nat → Nat}  {k218 : (Nat → Nat → Int32) → (Nat → Int32) → Option (Int32 × (Nat → Nat → Int32) × (Nat → Int32))} {res : Int32 × (Nat → Nat → Int32) × (Nat → Int32)}  (hk218 : ∀ (A0 : Nat → Nat → Int32) (f0 : Nat → Int32), k218 A0 f0 = some res → ∀ (H : Heap) (locs : List Loc) (ls : Array Slot), WD G DA (wX10 G h0 a0 f0 A0) H → va_S DA s.heap H locs → lv_has ls 4 [(0, .ref h0)] → W p l e rmX10_readsStep s m args below meth c H locs 0 0 (MQ below (QI G DA res.1 (wX10 G h0 a0 res.2.2 res.2.1)) args s 0 0 DA) (F0 m 218 ls [])) : ∀ (A0 : Nat → Nat → Int32) (f0 : Nat → Int32), f10_readsStep_b218   k218 A0 f0 = some res → ∀ (H : Heap) (locs : List Loc) (ls : Array Slot), WD G DA (wX10 G h0 a0 f0 A0) H → va_S DA s.heap H locs → lv_has ls 4 [(0, .ref h0)] → W p l e rmX10_readsStep s m args below meth c H locs 0 0 (MQ below (QI G DA res.1 (wX10 G h0 a0 res.2.2 res.2.1)) args s 0 0 DA) (F0 m 218 ls []) := by
  obtain ⟨hx, hb, hml, hown, hts⟩ := C0.1
  have hK := C0.2.2.2.1
  intro A0 f0 h _ _ _ hPD hS hl
  unfold f10_readsStep_b218 at h
  refine lv_aload_n hx hb dX10_readsStep_218 rfl (lv_at hl 0 rfl) ?_
  obtain ⟨q_9, hq_9, h⟩ := ob2 h
  refine kVI (As := []) (rest := []) C0 (kt_X10_here l G h0 a0 f0 A0 hq_9) gi_V_X10_144_X10_here (n := 0) rfl (by decide +kernel) rfl ⟨rfl, rfl, Nat.le_of_ble_eq_true rfl, Nat.le_of_ble_eq_true rfl⟩ hPD hS 0 10 rfl rfl rfl [0, 1, 2, 3, 4, 5, 6, 7, 8, 9, 10, 11, 12, 13, 14, 15, 16, 17, 18, 19, 20, 21, 22, 23, 24, 25, 26, 27, 28, 29, 30, 31, 32, 33] [] [0, 1, 2, 3, 4, 5, 6, 7, 8, 9, 10, 11, 12, 13, 14, 15, 16, 17, 18, 19, 20, 21, 22, 23, 24, 25, 26, 27, 28, 29, 30, 31, 32, 33] (wr := ([] : va_W)) (wN := (wX10 G h0 a0 f0 A0)) rfl rfl rfl rfl rfl hl.1 (Nat.le_of_ble_eq_true rfl) dX10_readsStep_219 (fun H locs hPD hS => ?_)
  refine lv_bipush (v := 41) hx hb dX10_readsStep_222 (by decide) ?_
  refine lv_icmp_ne (tgt := 290) hx hb dX10_readsStep_224 (by decide) (fun cc1 => ?_) (fun cc1 => ?_)
  · have h := (if_neg cc1).symm.trans h
    refine lv_iconst (v := 1) hx hb dX10_readsStep_290 (by decide) ?_
    obtain rfl := Option.some.inj h
    exact eZ C0 hPD.1 hPD.2 hS rfl rfl dX10_readsStep_291
  · have h := (if_pos cc1).symm.trans h
    refine lv_aload_n hx hb dX10_readsStep_227 rfl (lv_at hl 0 rfl) ?_
    refine va_get (D := G.1) (ci := 10) (v := .int (f0 36)) (C := RX10) (T := TX10) (N := 52) hx hb hts inlX10 hown hK hPD.1 0 rfl rfl 36 (by decide) (hts _ gw_687) (fun _ h9 => h9) rfl dX10_readsStep_228 ?_
    refine lv_if_le (tgt := 290) hx hb dX10_readsStep_231 (by decide) (fun cc1 => ?_) (fun cc1 => ?_)
    · have h := (if_pos cc1).symm.trans h
      refine lv_iconst (v := 1) hx hb dX10_readsStep_290 (by decide) ?_
      obtain rfl := Option.some.inj h
      exact eZ C0 hPD.1 hPD.2 hS rfl rfl dX10_readsStep_291
    · have h := (if_neg cc1).symm.trans h
      refine lv_aload_n hx hb dX10_readsStep_234 rfl (lv_at hl 0 rfl) ?_
      refine lv_aload_n hx hb dX10_readsStep_235 rfl (lv_at hl 0 rfl) ?_
      refine va_get (D := G.1) (ci := 10) (v := .int (f0 9)) (C := RX10) (T := TX10) (N := 52) hx hb hts inlX10 hown hK hPD.1 0 rfl rfl 9 (by decide) (hts _ gw_551) (fun _ h9 => h9) rfl dX10_readsStep_236 ?_
      refine lv_iconst (v := 1) hx hb dX10_readsStep_239 (by decide) ?_
      refine lv_iadd hx hb dX10_readsStep_240 ?_
      refine va_put (D := G.1) (ci := 10) (v := .int ((f0 9) + 1)) (ty := .int) (C := RX10) (T := TX10) (N := 52) hx hb hts inlX10 tyX10 tyX10_ok nmX10 hown hK hPD.1 hPD.2 hS 0 rfl rfl 9 (by decide) (hts _ gw_551) (fun _ h9 => h9) rfl (by decide +kernel) rfl rfl (Nat.le_of_ble_eq_true rfl) dX10_readsStep_241 (fun H locs hP hD hS => ?_)
      obtain ⟨f0_10, ef0_10, h⟩ := lvl h
      have hPD : WD G DA (wX10 G h0 a0 f0_10 A0) H := by rw [ef0_10]; exact ⟨hP, hD⟩
      clear ef0_10 hP hD
      refine lv_aload_n hx hb dX10_readsStep_244 rfl (lv_at hl 0 rfl) ?_
      refine lv_aload_n hx hb dX10_readsStep_245 rfl (lv_at hl 0 rfl) ?_
      refine va_get (D := G.1) (ci := 10) (v := .int (f0_10 36)) (C := RX10) (T := TX10) (N := 52) hx hb hts inlX10 hown hK hPD.1 0 rfl rfl 36 (by decide) (hts _ gw_687) (fun _ h9 => h9) rfl dX10_readsStep_246 ?_
      refine lv_iconst (v := 1) hx hb dX10_readsStep_249 (by decide) ?_
      refine lv_isub hx hb dX10_readsStep_250 ?_
      refine va_put (D := G.1) (ci := 10) (v := .int ((f0_10 36) - 1)) (ty := .int) (C := RX10) (T := TX10) (N := 52) hx hb hts inlX10 tyX10 tyX10_ok nmX10 hown hK hPD.1 hPD.2 hS 0 rfl rfl 36 (by decide) (hts _ gw_687) (fun _ h9 => h9) rfl (by decide +kernel) rfl rfl (Nat.le_of_ble_eq_true rfl) dX10_readsStep_251 (fun H locs hP hD hS => ?_)
      obtain ⟨f0_11, ef0_11, h⟩ := lvl h
      have hPD : WD G DA (wX10 G h0 a0 f0_11 A0) H := by rw [ef0_11]; exact ⟨hP, hD⟩
      clear ef0_11 hP hD
      refine lv_aload_n hx hb dX10_readsStep_254 rfl (lv_at hl 0 rfl) ?_
      refine lv_aload_n hx hb dX10_readsStep_255 rfl (lv_at hl 0 rfl) ?_
      refine va_get (D := G.1) (ci := 10) (v := .ref (a0 33)) (C := RX10) (T := TX10) (N := 52) hx hb hts inlX10 hown hK hPD.1 0 rfl rfl 33 (by decide) (hts _ gw_688) (fun _ h9 => h9) rfl dX10_readsStep_256 ?_
      refine lv_aload_n hx hb dX10_readsStep_259 rfl (lv_at hl 0 rfl) ?_
      refine va_get (D := G.1) (ci := 10) (v := .int (f0_11 36)) (C := RX10) (T := TX10) (N := 52) hx hb hts inlX10 hown hK hPD.1 0 rfl rfl 36 (by decide) (hts _ gw_687) (fun _ h9 => h9) rfl dX10_readsStep_260 ?_
      obtain ⟨hi_12, h⟩ := ob h
      refine va_iald hx hb hK hPD.1 23 1 rfl rfl hi_12 dX10_readsStep_263 ?_
      refine lv_aload_n hx hb dX10_readsStep_264 rfl (lv_at hl 0 rfl) ?_
      refine va_get (D := G.1) (ci := 10) (v := .ref (a0 34)) (C := RX10) (T := TX10) (N := 52) hx hb hts inlX10 hown hK hPD.1 0 rfl rfl 34 (by decide) (hts _ gw_689) (fun _ h9 => h9) rfl dX10_readsStep_265 ?_
      refine lv_aload_n hx hb dX10_readsStep_268 rfl (lv_at hl 0 rfl) ?_
      refine va_get (D := G.1) (ci := 10) (v := .int (f0_11 36)) (C := RX10) (T := TX10) (N := 52) hx hb hts inlX10 hown hK hPD.1 0 rfl rfl 36 (by decide) (hts _ gw_687) (fun _ h9 => h9) rfl dX10_readsStep_269 ?_
      obtain ⟨hi_13, h⟩ := ob h
      refine va_iald hx hb hK hPD.1 24 1 rfl rfl hi_13 dX10_readsStep_272 ?_
      refine lv_aload_n hx hb dX10_readsStep_273 rfl (lv_at hl 0 rfl) ?_
      refine va_get (D := G.1) (ci := 10) (v := .ref (a0 32)) (C := RX10) (T := TX10) (N := 52) hx hb hts inlX10 hown hK hPD.1 0 rfl rfl 32 (by decide) (hts _ gw_690) (fun _ h9 => h9) rfl dX10_readsStep_274 ?_
      refine lv_aload_n hx hb dX10_readsStep_277 rfl (lv_at hl 0 rfl) ?_
      refine va_get (D := G.1) (ci := 10) (v := .int (f0_11 36)) (C := RX10) (T := TX10) (N := 52) hx hb hts inlX10 hown hK hPD.1 0 rfl rfl 36 (by decide) (hts _ gw_687) (fun _ h9 => h9) rfl dX10_readsStep_278 ?_
      obtain ⟨hi_14, h⟩ := ob h
      refine va_iald hx hb hK hPD.1 22 1 rfl rfl hi_14 dX10_readsStep_281 ?_
      obtain ⟨q_15, hq_15, h⟩ := ob2 h
      refine kVI (As := [.int (gx (A0 33) (f0_11 36)), .int (gx (A0 34) (f0_11 36)), .int (gx (A0 32) (f0_11 36))]) (rest := []) C0 (kt_X10_repeats l G h0 a0 f0_11 A0 (gx (A0 33) (f0_11 36)) (gx (A0 34) (f0_11 36)) (gx (A0 32) (f0_11 36)) hq_15) gi_V_X10_265_X10_repeats (n := 3) rfl (by decide +kernel) rfl ⟨rfl, rfl, Nat.le_of_ble_eq_true rfl, Nat.le_of_ble_eq_true rfl⟩ hPD hS 0 10 rfl rfl rfl [0, 1, 2, 3, 4, 5, 6, 7, 8, 9, 10, 11, 12, 13, 14, 15, 16, 17, 18, 19, 20, 21, 22, 23, 24, 25, 26, 27, 28, 29, 30, 31, 32, 33] [] [0, 1, 2, 3, 4, 5, 6, 7, 8, 9, 10, 11, 12, 13, 14, 15, 16, 17, 18, 19, 20, 21, 22, 23, 24, 25, 26, 27, 28, 29, 30, 31, 32, 33] (wr := ([] : va_W)) (wN := (wX10 G h0 a0 q_15.2.2 q_15.2.1)) rfl rfl rfl rfl rfl hl.1 (Nat.le_of_ble_eq_true rfl) dX10_readsStep_282 (fun H locs hPD hS => ?_)
      refine lv_if_ne (tgt := 218) hx hb dX10_readsStep_285 (by decide) (fun cc1 => ?_) (fun cc1 => ?_)
      · have h := (if_neg cc1).symm.trans h
        exact hk218 q_15.2.1 q_15.2.2 h _ _ _ hPD hS (lv_sub hl [0] rfl)
      · have h := (if_pos cc1).symm.trans h
        refine lv_iconst (v := 0) hx hb dX10_readsStep_288 (by decide) ?_
        obtain rfl := Option.some.inj h
        exact eZ C0 hPD.1 hPD.2 hS rfl rfl dX10_readsStep_289
set_option maxRecDepth 100000 in
set_option maxHeartbeats 4000000 in
theorem ww_f10_readsStep_l218  (C0 : Cx cX10_readsStep 4 (some .boolean) RX10 p s m args meth c G DA) {h0 : Nat} {a0 : Nat → Nat}   {res : Int32 × (Nat → Nat → Int32) × (Nat → Int32)}  : ∀ (n : Nat) (A0 : Nat → Nat → Int32) (f0 : Nat → Int32), f10_readsStep_l218   n A0 f0 = some res → ∀ (H : Heap) (locs : List Loc) (ls : Array Slot), WD G DA (wX10 G h0 a0 f0 A0) H → va_S DA s.heap H locs → lv_has ls 4 [(0, .ref h0)] → W p l e rmX10_readsStep s m args below meth c H locs 0 0 (MQ below (QI G DA res.1 (wX10 G h0 a0 res.2.2 res.2.1)) args s 0 0 DA) (F0 m 218 ls []) := by
  intro n
  induction n with
  | zero => intro A0 f0 h; cases h
  | succ n ih => intro A0 f0 h; exact ww_f10_readsStep_b218 C0  ih A0 f0 h
set_option maxRecDepth 100000 in
set_option maxHeartbeats 4000000 in
theorem ww_f10_readsStep_b190  (C0 : Cx cX10_readsStep 4 (some .boolean) RX10 p s m args meth c G DA) {h0 : Nat} {a0 : Nat → Nat}   {res : Int32 × (Nat → Nat → Int32) × (Nat → Int32)}  : ∀ (A0 : Nat → Nat → Int32) (f0 : Nat → Int32) (l1 : Int32) (l2 : Int32) (s0 : Int32) (s1 : Int32), f10_readsStep_b190   A0 f0 l1 l2 s0 s1 = some res → ∀ (H : Heap) (locs : List Loc) (ls : Array Slot), WD G DA (wX10 G h0 a0 f0 A0) H → va_S DA s.heap H locs → lv_has ls 4 [(0, .ref h0), (1, .int l1), (2, .int l2)] → W p l e rmX10_readsStep s m args below meth c H locs 0 0 (MQ below (QI G DA res.1 (wX10 G h0 a0 res.2.2 res.2.1)) args s 0 0 DA) (F0 m 190 ls [.int s0, .int s1, .ref (a0 31)]) := by
  obtain ⟨hx, hb, hml, hown, hts⟩ := C0.1
  have hK := C0.2.2.2.1
  intro A0 f0 l1 l2 s0 s1 h _ _ _ hPD hS hl
  unfold f10_readsStep_b190 at h
  obtain ⟨hi_5, h⟩ := ob h
  refine va_iast hx hb hK hPD.1 hPD.2 hS 21 1 rfl rfl hi_5 dX10_readsStep_190 (fun H locs hP hD hS => ?_)
  obtain ⟨A0_6, eA0_6, h⟩ := lvl h
  have hPD : WD G DA (wX10 G h0 a0 f0 A0_6) H := by rw [eA0_6]; exact ⟨hP, hD⟩
  clear eA0_6 hP hD
  refine lv_aload_n hx hb dX10_readsStep_191 rfl (lv_at hl 0 rfl) ?_
  refine lv_aload_n hx hb dX10_readsStep_192 rfl (lv_at hl 0 rfl) ?_
  refine va_get (D := G.1) (ci := 10) (v := .int (f0 35)) (C := RX10) (T := TX10) (N := 52) hx hb hts inlX10 hown hK hPD.1 0 rfl rfl 35 (by decide) (hts _ gw_677) (fun _ h9 => h9) rfl dX10_readsStep_193 ?_
  refine lv_iconst (v := 1) hx hb dX10_readsStep_196 (by decide) ?_
  refine lv_iadd hx hb dX10_readsStep_197 ?_
  refine va_put (D := G.1) (ci := 10) (v := .int ((f0 35) + 1)) (ty := .int) (C := RX10) (T := TX10) (N := 52) hx hb hts inlX10 tyX10 tyX10_ok nmX10 hown hK hPD.1 hPD.2 hS 0 rfl rfl 35 (by decide) (hts _ gw_677) (fun _ h9 => h9) rfl (by decide +kernel) rfl rfl (Nat.le_of_ble_eq_true rfl) dX10_readsStep_198 (fun H locs hP hD hS => ?_)
  obtain ⟨f0_7, ef0_7, h⟩ := lvl h
  have hPD : WD G DA (wX10 G h0 a0 f0_7 A0_6) H := by rw [ef0_7]; exact ⟨hP, hD⟩
  clear ef0_7 hP hD
  refine lv_aload_n hx hb dX10_readsStep_201 rfl (lv_at hl 0 rfl) ?_
  refine lv_aload_n hx hb dX10_readsStep_202 rfl (lv_at hl 0 rfl) ?_
  refine va_get (D := G.1) (ci := 10) (v := .int (f0_7 35)) (C := RX10) (T := TX10) (N := 52) hx hb hts inlX10 hown hK hPD.1 0 rfl rfl 35 (by decide) (hts _ gw_677) (fun _ h9 => h9) rfl dX10_readsStep_203 ?_
  refine lv_iconst (v := 1) hx hb dX10_readsStep_206 (by decide) ?_
  refine lv_isub hx hb dX10_readsStep_207 ?_
  refine lv_iload_n hx hb dX10_readsStep_208 rfl (lv_at hl 2 rfl) ?_
  refine lv_iload_n hx hb dX10_readsStep_209 rfl (lv_at hl 1 rfl) ?_
  obtain ⟨q_8, hq_8, h⟩ := ob2 h
  refine kVI (As := [.int ((f0_7 35) - 1), .int l2, .int l1]) (rest := []) C0 (kt_X10_repeats l G h0 a0 f0_7 A0_6 ((f0_7 35) - 1) l2 l1 hq_8) gi_V_X10_265_X10_repeats (n := 3) rfl (by decide +kernel) rfl ⟨rfl, rfl, Nat.le_of_ble_eq_true rfl, Nat.le_of_ble_eq_true rfl⟩ hPD hS 0 10 rfl rfl rfl [0, 1, 2, 3, 4, 5, 6, 7, 8, 9, 10, 11, 12, 13, 14, 15, 16, 17, 18, 19, 20, 21, 22, 23, 24, 25, 26, 27, 28, 29, 30, 31, 32, 33] [] [0, 1, 2, 3, 4, 5, 6, 7, 8, 9, 10, 11, 12, 13, 14, 15, 16, 17, 18, 19, 20, 21, 22, 23, 24, 25, 26, 27, 28, 29, 30, 31, 32, 33] (wr := ([] : va_W)) (wN := (wX10 G h0 a0 q_8.2.2 q_8.2.1)) rfl rfl rfl rfl rfl hl.1 (Nat.le_of_ble_eq_true rfl) dX10_readsStep_210 (fun H locs hPD hS => ?_)
  refine lv_if_ne (tgt := 218) hx hb dX10_readsStep_213 (by decide) (fun cc1 => ?_) (fun cc1 => ?_)
  · have h := (if_neg cc1).symm.trans h
    exact ww_f10_readsStep_l218 C0 NF q_8.2.1 q_8.2.2 h _ _ _ hPD hS (lv_sub hl [0] rfl)
  · have h := (if_pos cc1).symm.trans h
    refine lv_iconst (v := 0) hx hb dX10_readsStep_216 (by decide) ?_
    obtain rfl := Option.some.inj h
    exact eZ C0 hPD.1 hPD.2 hS rfl rfl dX10_readsStep_217
set_option maxRecDepth 100000 in
set_option maxHeartbeats 4000000 in
theorem ww_f10_readsStep_b139  (C0 : Cx cX10_readsStep 4 (some .boolean) RX10 p s m args meth c G DA) {h0 : Nat} {a0 : Nat → Nat}   {res : Int32 × (Nat → Nat → Int32) × (Nat → Int32)}  : ∀ (A0 : Nat → Nat → Int32) (f0 : Nat → Int32) (l1 : Int32) (l2 : Int32) (l3 : Int32), f10_readsStep_b139   A0 f0 l1 l2 l3 = some res → ∀ (H : Heap) (locs : List Loc) (ls : Array Slot), WD G DA (wX10 G h0 a0 f0 A0) H → va_S DA s.heap H locs → lv_has ls 4 [(0, .ref h0), (1, .int l1), (2, .int l2), (3, .int l3)] → W p l e rmX10_readsStep s m args below meth c H locs 0 0 (MQ below (QI G DA res.1 (wX10 G h0 a0 res.2.2 res.2.1)) args s 0 0 DA) (F0 m 139 ls []) := by
  obtain ⟨hx, hb, hml, hown, hts⟩ := C0.1
  have hK := C0.2.2.2.1
  intro A0 f0 l1 l2 l3 h _ _ _ hPD hS hl
  unfold f10_readsStep_b139 at h
  refine lv_aload_n hx hb dX10_readsStep_139 rfl (lv_at hl 0 rfl) ?_
  refine va_get (D := G.1) (ci := 10) (v := .int (f0 35)) (C := RX10) (T := TX10) (N := 52) hx hb hts inlX10 hown hK hPD.1 0 rfl rfl 35 (by decide) (hts _ gw_677) (fun _ h9 => h9) rfl dX10_readsStep_140 ?_
  refine lv_iload_n hx hb dX10_readsStep_143 rfl (lv_at hl 2 rfl) ?_
  refine lv_iadd hx hb dX10_readsStep_144 ?_
  refine lv_bipush (v := 48) hx hb dX10_readsStep_145 (by decide) ?_
  refine lv_icmp_le (tgt := 158) hx hb dX10_readsStep_147 (by decide) (fun cc1 => ?_) (fun cc1 => ?_)
  · have h := (if_pos cc1).symm.trans h
    refine lv_aload_n hx hb dX10_readsStep_158 rfl (lv_at hl 0 rfl) ?_
    refine lv_aload_n hx hb dX10_readsStep_159 rfl (lv_at hl 0 rfl) ?_
    refine va_get (D := G.1) (ci := 10) (v := .int (f0 9)) (C := RX10) (T := TX10) (N := 52) hx hb hts inlX10 hown hK hPD.1 0 rfl rfl 9 (by decide) (hts _ gw_551) (fun _ h9 => h9) rfl dX10_readsStep_160 ?_
    refine lv_iconst (v := 1) hx hb dX10_readsStep_163 (by decide) ?_
    refine lv_iadd hx hb dX10_readsStep_164 ?_
    refine va_put (D := G.1) (ci := 10) (v := .int ((f0 9) + 1)) (ty := .int) (C := RX10) (T := TX10) (N := 52) hx hb hts inlX10 tyX10 tyX10_ok nmX10 hown hK hPD.1 hPD.2 hS 0 rfl rfl 9 (by decide) (hts _ gw_551) (fun _ h9 => h9) rfl (by decide +kernel) rfl rfl (Nat.le_of_ble_eq_true rfl) dX10_readsStep_165 (fun H locs hP hD hS => ?_)
    obtain ⟨f0_4, ef0_4, h⟩ := lvl h
    have hPD : WD G DA (wX10 G h0 a0 f0_4 A0) H := by rw [ef0_4]; exact ⟨hP, hD⟩
    clear ef0_4 hP hD
    refine lv_aload_n hx hb dX10_readsStep_168 rfl (lv_at hl 0 rfl) ?_
    refine va_get (D := G.1) (ci := 10) (v := .ref (a0 31)) (C := RX10) (T := TX10) (N := 52) hx hb hts inlX10 hown hK hPD.1 0 rfl rfl 31 (by decide) (hts _ gw_678) (fun _ h9 => h9) rfl dX10_readsStep_169 ?_
    refine lv_aload_n hx hb dX10_readsStep_172 rfl (lv_at hl 0 rfl) ?_
    refine va_get (D := G.1) (ci := 10) (v := .int (f0_4 35)) (C := RX10) (T := TX10) (N := 52) hx hb hts inlX10 hown hK hPD.1 0 rfl rfl 35 (by decide) (hts _ gw_677) (fun _ h9 => h9) rfl dX10_readsStep_173 ?_
    refine lv_iload_n hx hb dX10_readsStep_176 rfl (lv_at hl 3 rfl) ?_
    refine lv_bipush (v := 46) hx hb dX10_readsStep_177 (by decide) ?_
    refine lv_icmp_ne (tgt := 186) hx hb dX10_readsStep_179 (by decide) (fun cc1 => ?_) (fun cc1 => ?_)
    · have h := (if_neg cc1).symm.trans h
      refine lv_iload_n hx hb dX10_readsStep_186 rfl (lv_at hl 3 rfl) ?_
      refine lv_bipush (v := 97) hx hb dX10_readsStep_187 (by decide) ?_
      refine lv_isub hx hb dX10_readsStep_189 ?_
      exact ww_f10_readsStep_b190 C0 A0 f0_4 l1 l2 (l3 - 97) (f0_4 35) h _ _ _ hPD hS (lv_sub hl [0, 1, 2] rfl)
    · have h := (if_pos cc1).symm.trans h
      refine lv_iconst (v := (-1)) hx hb dX10_readsStep_182 (by decide) ?_
      refine lv_goto (tgt := 190) hx hb dX10_readsStep_183 (by decide) ?_
      exact ww_f10_readsStep_b190 C0 A0 f0_4 l1 l2 (-1) (f0_4 35) h _ _ _ hPD hS (lv_sub hl [0, 1, 2] rfl)
  · have h := (if_neg cc1).symm.trans h
    refine lv_aload_n hx hb dX10_readsStep_150 rfl (lv_at hl 0 rfl) ?_
    refine lv_bipush (v := 6) hx hb dX10_readsStep_151 (by decide) ?_
    refine lv_iload_n hx hb dX10_readsStep_153 rfl (lv_at hl 1 rfl) ?_
    obtain ⟨q_16, hq_16, h⟩ := ob2 h
    refine kVI (As := [.int 6, .int l1]) (rest := []) C0 (kt_X10_wrongAt l G h0 a0 f0 A0 6 l1 hq_16) gi_V_X10_151_X10_wrongAt (n := 2) rfl (by decide +kernel) rfl ⟨rfl, rfl, Nat.le_of_ble_eq_true rfl, Nat.le_of_ble_eq_true rfl⟩ hPD hS 0 10 rfl rfl rfl [0, 1, 2, 3, 4, 5, 6, 7, 8, 9, 10, 11, 12, 13, 14, 15, 16, 17, 18, 19, 20, 21, 22, 23, 24, 25, 26, 27, 28, 29, 30, 31, 32, 33] [] [0, 1, 2, 3, 4, 5, 6, 7, 8, 9, 10, 11, 12, 13, 14, 15, 16, 17, 18, 19, 20, 21, 22, 23, 24, 25, 26, 27, 28, 29, 30, 31, 32, 33] (wr := ([] : va_W)) (wN := (wX10 G h0 a0 q_16.2 A0)) rfl rfl rfl rfl rfl hl.1 (Nat.le_of_ble_eq_true rfl) dX10_readsStep_154 (fun H locs hPD hS => ?_)
    obtain ⟨hz, h⟩ := ob h
    obtain rfl := Option.some.inj h
    exact eZ C0 hPD.1 hPD.2 hS rfl (nbool (Classical.not_not.mp hz)) dX10_readsStep_157
set_option maxRecDepth 100000 in
set_option maxHeartbeats 4000000 in
theorem ww_f10_readsStep_b4  (C0 : Cx cX10_readsStep 4 (some .boolean) RX10 p s m args meth c G DA) {h0 : Nat} {a0 : Nat → Nat}  {k4 : (Nat → Nat → Int32) → (Nat → Int32) → Option (Int32 × (Nat → Nat → Int32) × (Nat → Int32))} {res : Int32 × (Nat → Nat → Int32) × (Nat → Int32)}  (hk4 : ∀ (A0 : Nat → Nat → Int32) (f0 : Nat → Int32), k4 A0 f0 = some res → ∀ (H : Heap) (locs : List Loc) (ls : Array Slot), WD G DA (wX10 G h0 a0 f0 A0) H → va_S DA s.heap H locs → lv_has ls 4 [(0, .ref h0)] → W p l e rmX10_readsStep s m args below meth c H locs 0 0 (MQ below (QI G DA res.1 (wX10 G h0 a0 res.2.2 res.2.1)) args s 0 0 DA) (F0 m 4 ls [])) : ∀ (A0 : Nat → Nat → Int32) (f0 : Nat → Int32), f10_readsStep_b4   k4 A0 f0 = some res → ∀ (H : Heap) (locs : List Loc) (ls : Array Slot), WD G DA (wX10 G h0 a0 f0 A0) H → va_S DA s.heap H locs → lv_has ls 4 [(0, .ref h0)] → W p l e rmX10_readsStep s m args below meth c H locs 0 0 (MQ below (QI G DA res.1 (wX10 G h0 a0 res.2.2 res.2.1)) args s 0 0 DA) (F0 m 4 ls []) := by
  obtain ⟨hx, hb, hml, hown, hts⟩ := C0.1
  have hK := C0.2.2.2.1
  intro A0 f0 h _ _ _ hPD hS hl
  unfold f10_readsStep_b4 at h
  refine lv_aload_n hx hb dX10_readsStep_4 rfl (lv_at hl 0 rfl) ?_
  obtain ⟨q_2, hq_2, h⟩ := ob2 h
  refine kVI (As := []) (rest := []) C0 (kt_X10_here l G h0 a0 f0 A0 hq_2) gi_V_X10_144_X10_here (n := 0) rfl (by decide +kernel) rfl ⟨rfl, rfl, Nat.le_of_ble_eq_true rfl, Nat.le_of_ble_eq_true rfl⟩ hPD hS 0 10 rfl rfl rfl [0, 1, 2, 3, 4, 5, 6, 7, 8, 9, 10, 11, 12, 13, 14, 15, 16, 17, 18, 19, 20, 21, 22, 23, 24, 25, 26, 27, 28, 29, 30, 31, 32, 33] [] [0, 1, 2, 3, 4, 5, 6, 7, 8, 9, 10, 11, 12, 13, 14, 15, 16, 17, 18, 19, 20, 21, 22, 23, 24, 25, 26, 27, 28, 29, 30, 31, 32, 33] (wr := ([] : va_W)) (wN := (wX10 G h0 a0 f0 A0)) rfl rfl rfl rfl rfl hl.1 (Nat.le_of_ble_eq_true rfl) dX10_readsStep_5 (fun H locs hPD hS => ?_)
  refine lv_bipush (v := 40) hx hb dX10_readsStep_8 (by decide) ?_
  refine lv_icmp_ne (tgt := 97) hx hb dX10_readsStep_10 (by decide) (fun cc1 => ?_) (fun cc1 => ?_)
  · have h := (if_neg cc1).symm.trans h
    refine lv_aload_n hx hb dX10_readsStep_97 rfl (lv_at hl 0 rfl) ?_
    refine va_get (D := G.1) (ci := 10) (v := .int (f0 37)) (C := RX10) (T := TX10) (N := 52) hx hb hts inlX10 hown hK hPD.1 0 rfl rfl 37 (by decide) (hts _ gw_675) (fun _ h9 => h9) rfl dX10_readsStep_98 ?_
    refine lv_istore_n (lv' := [(1, .int (f0 37)), (0, .ref h0)]) hx hb dX10_readsStep_101 rfl hl (by decide) rfl (fun ls hl => ?_)
    refine lv_aload_n hx hb dX10_readsStep_102 rfl (lv_at hl 1 rfl) ?_
    refine va_get (D := G.1) (ci := 10) (v := .int (f0 38)) (C := RX10) (T := TX10) (N := 52) hx hb hts inlX10 hown hK hPD.1 0 rfl rfl 38 (by decide) (hts _ gw_676) (fun _ h9 => h9) rfl dX10_readsStep_103 ?_
    refine lv_istore_n (lv' := [(2, .int (f0 38)), (1, .int (f0 37)), (0, .ref h0)]) hx hb dX10_readsStep_106 rfl hl (by decide) rfl (fun ls hl => ?_)
    refine lv_aload_n hx hb dX10_readsStep_107 rfl (lv_at hl 2 rfl) ?_
    obtain ⟨q_3, hq_3, h⟩ := ob2 h
    refine kVI (As := []) (rest := []) C0 (kt_X10_here l G h0 a0 f0 A0 hq_3) gi_V_X10_144_X10_here (n := 0) rfl (by decide +kernel) rfl ⟨rfl, rfl, Nat.le_of_ble_eq_true rfl, Nat.le_of_ble_eq_true rfl⟩ hPD hS 0 10 rfl rfl rfl [0, 1, 2, 3, 4, 5, 6, 7, 8, 9, 10, 11, 12, 13, 14, 15, 16, 17, 18, 19, 20, 21, 22, 23, 24, 25, 26, 27, 28, 29, 30, 31, 32, 33] [] [0, 1, 2, 3, 4, 5, 6, 7, 8, 9, 10, 11, 12, 13, 14, 15, 16, 17, 18, 19, 20, 21, 22, 23, 24, 25, 26, 27, 28, 29, 30, 31, 32, 33] (wr := ([] : va_W)) (wN := (wX10 G h0 a0 f0 A0)) rfl rfl rfl rfl rfl hl.1 (Nat.le_of_ble_eq_true rfl) dX10_readsStep_108 (fun H locs hPD hS => ?_)
    refine lv_istore_n (lv' := [(3, .int q_3), (2, .int (f0 38)), (1, .int (f0 37)), (0, .ref h0)]) hx hb dX10_readsStep_111 rfl hl (by decide) rfl (fun ls hl => ?_)
    refine lv_iload_n hx hb dX10_readsStep_112 rfl (lv_at hl 0 rfl) ?_
    refine lv_bipush (v := 46) hx hb dX10_readsStep_113 (by decide) ?_
    refine lv_icmp_eq (tgt := 139) hx hb dX10_readsStep_115 (by decide) (fun cc1 => ?_) (fun cc1 => ?_)
    · have h := (if_pos cc1).symm.trans h
      exact ww_f10_readsStep_b139 C0 A0 f0 (f0 37) (f0 38) q_3 h _ _ _ hPD hS (lv_sub hl [3, 2, 1, 0] rfl)
    · have h := (if_neg cc1).symm.trans h
      refine lv_iload_n hx hb dX10_readsStep_118 rfl (lv_at hl 0 rfl) ?_
      refine lv_bipush (v := 97) hx hb dX10_readsStep_119 (by decide) ?_
      refine lv_bipush (v := 112) hx hb dX10_readsStep_121 (by decide) ?_
      refine kSI (As := [.int q_3, .int 97, .int 112]) (rest := []) C0 (kt_X10_in l G  q_3 97 112) gi_S_X10_112_X10_in (n := 3) rfl (by decide +kernel) ⟨rfl, rfl, Nat.le_of_ble_eq_true rfl, Nat.le_of_ble_eq_true rfl⟩ hPD hS [] [0, 1, 2, 3, 4, 5, 6, 7, 8, 9, 10, 11, 12, 13, 14, 15, 16, 17, 18, 19, 20, 21, 22, 23, 24, 25, 26, 27, 28, 29, 30, 31, 32, 33] [0, 1, 2, 3, 4, 5, 6, 7, 8, 9, 10, 11, 12, 13, 14, 15, 16, 17, 18, 19, 20, 21, 22, 23, 24, 25, 26, 27, 28, 29, 30, 31, 32, 33] (wr := (wX10 G h0 a0 f0 A0)) (wN := (wX10 G h0 a0 f0 A0)) rfl rfl rfl rfl rfl hl.1 (Nat.le_of_ble_eq_true rfl) dX10_readsStep_123 (fun H locs hPD hS => ?_)
      refine lv_if_ne (tgt := 139) hx hb dX10_readsStep_126 (by decide) (fun cc1 => ?_) (fun cc1 => ?_)
      · have h := (if_neg cc1).symm.trans h
        exact ww_f10_readsStep_b139 C0 A0 f0 (f0 37) (f0 38) q_3 h _ _ _ hPD hS (lv_sub hl [3, 2, 1, 0] rfl)
      · have h := (if_pos cc1).symm.trans h
        refine lv_aload_n hx hb dX10_readsStep_129 rfl (lv_at hl 3 rfl) ?_
        refine lv_iconst (v := 1) hx hb dX10_readsStep_130 (by decide) ?_
        refine lv_aload_n hx hb dX10_readsStep_131 rfl (lv_at hl 3 rfl) ?_
        refine va_get (D := G.1) (ci := 10) (v := .int (f0 9)) (C := RX10) (T := TX10) (N := 52) hx hb hts inlX10 hown hK hPD.1 0 rfl rfl 9 (by decide) (hts _ gw_551) (fun _ h9 => h9) rfl dX10_readsStep_132 ?_
        obtain ⟨q_17, hq_17, h⟩ := ob2 h
        refine kVI (As := [.int 1, .int (f0 9)]) (rest := []) C0 (kt_X10_wrongAt l G h0 a0 f0 A0 1 (f0 9) hq_17) gi_V_X10_151_X10_wrongAt (n := 2) rfl (by decide +kernel) rfl ⟨rfl, rfl, Nat.le_of_ble_eq_true rfl, Nat.le_of_ble_eq_true rfl⟩ hPD hS 0 10 rfl rfl rfl [0, 1, 2, 3, 4, 5, 6, 7, 8, 9, 10, 11, 12, 13, 14, 15, 16, 17, 18, 19, 20, 21, 22, 23, 24, 25, 26, 27, 28, 29, 30, 31, 32, 33] [] [0, 1, 2, 3, 4, 5, 6, 7, 8, 9, 10, 11, 12, 13, 14, 15, 16, 17, 18, 19, 20, 21, 22, 23, 24, 25, 26, 27, 28, 29, 30, 31, 32, 33] (wr := ([] : va_W)) (wN := (wX10 G h0 a0 q_17.2 A0)) rfl rfl rfl rfl rfl hl.1 (Nat.le_of_ble_eq_true rfl) dX10_readsStep_135 (fun H locs hPD hS => ?_)
        obtain ⟨hz, h⟩ := ob h
        obtain rfl := Option.some.inj h
        exact eZ C0 hPD.1 hPD.2 hS rfl (nbool (Classical.not_not.mp hz)) dX10_readsStep_138
  · have h := (if_pos cc1).symm.trans h
    refine lv_aload_n hx hb dX10_readsStep_13 rfl (lv_at hl 0 rfl) ?_
    refine va_get (D := G.1) (ci := 10) (v := .int (f0 36)) (C := RX10) (T := TX10) (N := 52) hx hb hts inlX10 hown hK hPD.1 0 rfl rfl 36 (by decide) (hts _ gw_687) (fun _ h9 => h9) rfl dX10_readsStep_14 ?_
    refine lv_iconst (v := 2) hx hb dX10_readsStep_17 (by decide) ?_
    refine lv_icmp_ne (tgt := 31) hx hb dX10_readsStep_18 (by decide) (fun cc1 => ?_) (fun cc1 => ?_)
    · have h := (if_neg cc1).symm.trans h
      refine lv_aload_n hx hb dX10_readsStep_31 rfl (lv_at hl 0 rfl) ?_
      refine va_get (D := G.1) (ci := 10) (v := .ref (a0 32)) (C := RX10) (T := TX10) (N := 52) hx hb hts inlX10 hown hK hPD.1 0 rfl rfl 32 (by decide) (hts _ gw_690) (fun _ h9 => h9) rfl dX10_readsStep_32 ?_
      refine lv_aload_n hx hb dX10_readsStep_35 rfl (lv_at hl 0 rfl) ?_
      refine va_get (D := G.1) (ci := 10) (v := .int (f0 36)) (C := RX10) (T := TX10) (N := 52) hx hb hts inlX10 hown hK hPD.1 0 rfl rfl 36 (by decide) (hts _ gw_687) (fun _ h9 => h9) rfl dX10_readsStep_36 ?_
      refine lv_aload_n hx hb dX10_readsStep_39 rfl (lv_at hl 0 rfl) ?_
      refine va_get (D := G.1) (ci := 10) (v := .int (f0 37)) (C := RX10) (T := TX10) (N := 52) hx hb hts inlX10 hown hK hPD.1 0 rfl rfl 37 (by decide) (hts _ gw_675) (fun _ h9 => h9) rfl dX10_readsStep_40 ?_
      obtain ⟨hi_18, h⟩ := ob h
      refine va_iast hx hb hK hPD.1 hPD.2 hS 22 1 rfl rfl hi_18 dX10_readsStep_43 (fun H locs hP hD hS => ?_)
      obtain ⟨A0_19, eA0_19, h⟩ := lvl h
      have hPD : WD G DA (wX10 G h0 a0 f0 A0_19) H := by rw [eA0_19]; exact ⟨hP, hD⟩
      clear eA0_19 hP hD
      refine lv_aload_n hx hb dX10_readsStep_44 rfl (lv_at hl 0 rfl) ?_
      refine va_get (D := G.1) (ci := 10) (v := .ref (a0 33)) (C := RX10) (T := TX10) (N := 52) hx hb hts inlX10 hown hK hPD.1 0 rfl rfl 33 (by decide) (hts _ gw_688) (fun _ h9 => h9) rfl dX10_readsStep_45 ?_
      refine lv_aload_n hx hb dX10_readsStep_48 rfl (lv_at hl 0 rfl) ?_
      refine va_get (D := G.1) (ci := 10) (v := .int (f0 36)) (C := RX10) (T := TX10) (N := 52) hx hb hts inlX10 hown hK hPD.1 0 rfl rfl 36 (by decide) (hts _ gw_687) (fun _ h9 => h9) rfl dX10_readsStep_49 ?_
      refine lv_aload_n hx hb dX10_readsStep_52 rfl (lv_at hl 0 rfl) ?_
      refine va_get (D := G.1) (ci := 10) (v := .int (f0 35)) (C := RX10) (T := TX10) (N := 52) hx hb hts inlX10 hown hK hPD.1 0 rfl rfl 35 (by decide) (hts _ gw_677) (fun _ h9 => h9) rfl dX10_readsStep_53 ?_
      obtain ⟨hi_20, h⟩ := ob h
      refine va_iast hx hb hK hPD.1 hPD.2 hS 23 1 rfl rfl hi_20 dX10_readsStep_56 (fun H locs hP hD hS => ?_)
      obtain ⟨A0_21, eA0_21, h⟩ := lvl h
      have hPD : WD G DA (wX10 G h0 a0 f0 A0_21) H := by rw [eA0_21]; exact ⟨hP, hD⟩
      clear eA0_21 hP hD
      refine lv_aload_n hx hb dX10_readsStep_57 rfl (lv_at hl 0 rfl) ?_
      refine va_get (D := G.1) (ci := 10) (v := .ref (a0 34)) (C := RX10) (T := TX10) (N := 52) hx hb hts inlX10 hown hK hPD.1 0 rfl rfl 34 (by decide) (hts _ gw_689) (fun _ h9 => h9) rfl dX10_readsStep_58 ?_
      refine lv_aload_n hx hb dX10_readsStep_61 rfl (lv_at hl 0 rfl) ?_
      refine va_get (D := G.1) (ci := 10) (v := .int (f0 36)) (C := RX10) (T := TX10) (N := 52) hx hb hts inlX10 hown hK hPD.1 0 rfl rfl 36 (by decide) (hts _ gw_687) (fun _ h9 => h9) rfl dX10_readsStep_62 ?_
      refine lv_aload_n hx hb dX10_readsStep_65 rfl (lv_at hl 0 rfl) ?_
      refine va_get (D := G.1) (ci := 10) (v := .int (f0 38)) (C := RX10) (T := TX10) (N := 52) hx hb hts inlX10 hown hK hPD.1 0 rfl rfl 38 (by decide) (hts _ gw_676) (fun _ h9 => h9) rfl dX10_readsStep_66 ?_
      obtain ⟨hi_22, h⟩ := ob h
      refine va_iast hx hb hK hPD.1 hPD.2 hS 24 1 rfl rfl hi_22 dX10_readsStep_69 (fun H locs hP hD hS => ?_)
      obtain ⟨A0_23, eA0_23, h⟩ := lvl h
      have hPD : WD G DA (wX10 G h0 a0 f0 A0_23) H := by rw [eA0_23]; exact ⟨hP, hD⟩
      clear eA0_23 hP hD
      refine lv_aload_n hx hb dX10_readsStep_70 rfl (lv_at hl 0 rfl) ?_
      refine lv_aload_n hx hb dX10_readsStep_71 rfl (lv_at hl 0 rfl) ?_
      refine va_get (D := G.1) (ci := 10) (v := .int (f0 36)) (C := RX10) (T := TX10) (N := 52) hx hb hts inlX10 hown hK hPD.1 0 rfl rfl 36 (by decide) (hts _ gw_687) (fun _ h9 => h9) rfl dX10_readsStep_72 ?_
      refine lv_iconst (v := 1) hx hb dX10_readsStep_75 (by decide) ?_
      refine lv_iadd hx hb dX10_readsStep_76 ?_
      refine va_put (D := G.1) (ci := 10) (v := .int ((f0 36) + 1)) (ty := .int) (C := RX10) (T := TX10) (N := 52) hx hb hts inlX10 tyX10 tyX10_ok nmX10 hown hK hPD.1 hPD.2 hS 0 rfl rfl 36 (by decide) (hts _ gw_687) (fun _ h9 => h9) rfl (by decide +kernel) rfl rfl (Nat.le_of_ble_eq_true rfl) dX10_readsStep_77 (fun H locs hP hD hS => ?_)
      obtain ⟨f0_24, ef0_24, h⟩ := lvl h
      have hPD : WD G DA (wX10 G h0 a0 f0_24 A0_23) H := by rw [ef0_24]; exact ⟨hP, hD⟩
      clear ef0_24 hP hD
      refine lv_aload_n hx hb dX10_readsStep_80 rfl (lv_at hl 0 rfl) ?_
      refine lv_aload_n hx hb dX10_readsStep_81 rfl (lv_at hl 0 rfl) ?_
      refine va_get (D := G.1) (ci := 10) (v := .int (f0_24 9)) (C := RX10) (T := TX10) (N := 52) hx hb hts inlX10 hown hK hPD.1 0 rfl rfl 9 (by decide) (hts _ gw_551) (fun _ h9 => h9) rfl dX10_readsStep_82 ?_
      refine lv_iconst (v := 1) hx hb dX10_readsStep_85 (by decide) ?_
      refine lv_iadd hx hb dX10_readsStep_86 ?_
      refine va_put (D := G.1) (ci := 10) (v := .int ((f0_24 9) + 1)) (ty := .int) (C := RX10) (T := TX10) (N := 52) hx hb hts inlX10 tyX10 tyX10_ok nmX10 hown hK hPD.1 hPD.2 hS 0 rfl rfl 9 (by decide) (hts _ gw_551) (fun _ h9 => h9) rfl (by decide +kernel) rfl rfl (Nat.le_of_ble_eq_true rfl) dX10_readsStep_87 (fun H locs hP hD hS => ?_)
      obtain ⟨f0_25, ef0_25, h⟩ := lvl h
      have hPD : WD G DA (wX10 G h0 a0 f0_25 A0_23) H := by rw [ef0_25]; exact ⟨hP, hD⟩
      clear ef0_25 hP hD
      refine lv_aload_n hx hb dX10_readsStep_90 rfl (lv_at hl 0 rfl) ?_
      obtain ⟨q_26, hq_26, h⟩ := ob2 h
      refine kVV (As := []) (rest := []) C0 (kt_X10_readsTimes l G h0 a0 f0_25 A0_23 hq_26) gi_V_X10_259_X10_readsTimes (n := 0) rfl (by decide +kernel) rfl ⟨rfl, rfl, Nat.le_of_ble_eq_true rfl, Nat.le_of_ble_eq_true rfl⟩ hPD hS 0 10 rfl rfl rfl [0, 1, 2, 3, 4, 5, 6, 7, 8, 9, 10, 11, 12, 13, 14, 15, 16, 17, 18, 19, 20, 21, 22, 23, 24, 25, 26, 27, 28, 29, 30, 31, 32, 33] [] [0, 1, 2, 3, 4, 5, 6, 7, 8, 9, 10, 11, 12, 13, 14, 15, 16, 17, 18, 19, 20, 21, 22, 23, 24, 25, 26, 27, 28, 29, 30, 31, 32, 33] (wr := ([] : va_W)) (wN := (wX10 G h0 a0 q_26 A0_23)) rfl rfl rfl rfl rfl hl.1 (Nat.le_of_ble_eq_true rfl) dX10_readsStep_91 (fun H locs hPD hS => ?_)
      refine lv_goto (tgt := 4) hx hb dX10_readsStep_94 (by decide) ?_
      exact hk4 A0_23 q_26 h _ _ _ hPD hS (lv_sub hl [0] rfl)
    · have h := (if_pos cc1).symm.trans h
      refine lv_aload_n hx hb dX10_readsStep_21 rfl (lv_at hl 0 rfl) ?_
      refine lv_iconst (v := 5) hx hb dX10_readsStep_22 (by decide) ?_
      refine lv_aload_n hx hb dX10_readsStep_23 rfl (lv_at hl 0 rfl) ?_
      refine va_get (D := G.1) (ci := 10) (v := .int (f0 9)) (C := RX10) (T := TX10) (N := 52) hx hb hts inlX10 hown hK hPD.1 0 rfl rfl 9 (by decide) (hts _ gw_551) (fun _ h9 => h9) rfl dX10_readsStep_24 ?_
      obtain ⟨q_27, hq_27, h⟩ := ob2 h
      refine kVI (As := [.int 5, .int (f0 9)]) (rest := []) C0 (kt_X10_wrongAt l G h0 a0 f0 A0 5 (f0 9) hq_27) gi_V_X10_151_X10_wrongAt (n := 2) rfl (by decide +kernel) rfl ⟨rfl, rfl, Nat.le_of_ble_eq_true rfl, Nat.le_of_ble_eq_true rfl⟩ hPD hS 0 10 rfl rfl rfl [0, 1, 2, 3, 4, 5, 6, 7, 8, 9, 10, 11, 12, 13, 14, 15, 16, 17, 18, 19, 20, 21, 22, 23, 24, 25, 26, 27, 28, 29, 30, 31, 32, 33] [] [0, 1, 2, 3, 4, 5, 6, 7, 8, 9, 10, 11, 12, 13, 14, 15, 16, 17, 18, 19, 20, 21, 22, 23, 24, 25, 26, 27, 28, 29, 30, 31, 32, 33] (wr := ([] : va_W)) (wN := (wX10 G h0 a0 q_27.2 A0)) rfl rfl rfl rfl rfl hl.1 (Nat.le_of_ble_eq_true rfl) dX10_readsStep_27 (fun H locs hPD hS => ?_)
      obtain ⟨hz, h⟩ := ob h
      obtain rfl := Option.some.inj h
      exact eZ C0 hPD.1 hPD.2 hS rfl (nbool (Classical.not_not.mp hz)) dX10_readsStep_30
set_option maxRecDepth 100000 in
set_option maxHeartbeats 4000000 in
theorem ww_f10_readsStep_l4  (C0 : Cx cX10_readsStep 4 (some .boolean) RX10 p s m args meth c G DA) {h0 : Nat} {a0 : Nat → Nat}   {res : Int32 × (Nat → Nat → Int32) × (Nat → Int32)}  : ∀ (n : Nat) (A0 : Nat → Nat → Int32) (f0 : Nat → Int32), f10_readsStep_l4   n A0 f0 = some res → ∀ (H : Heap) (locs : List Loc) (ls : Array Slot), WD G DA (wX10 G h0 a0 f0 A0) H → va_S DA s.heap H locs → lv_has ls 4 [(0, .ref h0)] → W p l e rmX10_readsStep s m args below meth c H locs 0 0 (MQ below (QI G DA res.1 (wX10 G h0 a0 res.2.2 res.2.1)) args s 0 0 DA) (F0 m 4 ls []) := by
  intro n
  induction n with
  | zero => intro A0 f0 h; cases h
  | succ n ih => intro A0 f0 h; exact ww_f10_readsStep_b4 C0  ih A0 f0 h
set_option maxRecDepth 100000 in
set_option maxHeartbeats 4000000 in
theorem kt_X10_readsStep (l : Launch) (G : Gp) (h0 : Nat) (a0 : Nat → Nat) (f0 : Nat → Int32) (A0 : Nat → Nat → Int32) : ∀ {r : Int32 × (Nat → Nat → Int32) × (Nat → Int32)}, f10_readsStep f0 A0 = some r → CtrI l yX10_readsStep cX10_readsStep 4 (some .boolean) rmX10_readsStep G [.ref h0] (wX10 G h0 a0 f0 A0) r.1 (wX10 G h0 a0 r.2.2 r.2.1) := by
  intro res h
  refine ctrI_of (cc := cX10_readsStep) (maxL := 4) (ret := (some .boolean)) (by decide +kernel) rfl (Nat.le_of_ble_eq_true rfl) (fun p e s m below meth c DA C0 hP hD ls hl => ?_)
  have hPD : WD G DA (wX10 G h0 a0 f0 A0) s.heap := ⟨hP, hD⟩
  have hS : va_S DA s.heap s.heap [] := va_S.rf
  have hl : lv_has ls 4 [(0, .ref h0)] := hl
  obtain ⟨hx, hb, hml, hown, hts⟩ := C0.1
  have hK := C0.2.2.2.1
  unfold f10_readsStep at h
  refine lv_aload_n hx hb dX10_readsStep_0 rfl (lv_at hl 0 rfl) ?_
  obtain ⟨q_1, hq_1, h⟩ := ob2 h
  refine kVV (As := []) (rest := []) C0 (kt_X10_readsTimes l G h0 a0 f0 A0 hq_1) gi_V_X10_259_X10_readsTimes (n := 0) rfl (by decide +kernel) rfl ⟨rfl, rfl, Nat.le_of_ble_eq_true rfl, Nat.le_of_ble_eq_true rfl⟩ hPD hS 0 10 rfl rfl rfl [0, 1, 2, 3, 4, 5, 6, 7, 8, 9, 10, 11, 12, 13, 14, 15, 16, 17, 18, 19, 20, 21, 22, 23, 24, 25, 26, 27, 28, 29, 30, 31, 32, 33] [] [0, 1, 2, 3, 4, 5, 6, 7, 8, 9, 10, 11, 12, 13, 14, 15, 16, 17, 18, 19, 20, 21, 22, 23, 24, 25, 26, 27, 28, 29, 30, 31, 32, 33] (wr := ([] : va_W)) (wN := (wX10 G h0 a0 q_1 A0)) rfl rfl rfl rfl rfl hl.1 (Nat.le_of_ble_eq_true rfl) dX10_readsStep_1 (fun H locs hPD hS => ?_)
  exact ww_f10_readsStep_l4 C0 NF A0 q_1 h _ _ _ hPD hS (lv_sub hl [0] rfl)
abbrev rmX10_beat : Room := { frames := 3, cells := 0, slots := 0, locals := 70 }
set_option maxRecDepth 100000 in
set_option maxHeartbeats 4000000 in
theorem ww_f10_beat_b107  (C0 : Cx cX10_beat 5 (some .int) RX10 p s m args meth c G DA) {h0 : Nat} {a0 : Nat → Nat} {p1 : Int32} {p2 : Int32}  {k107 : (Nat → Nat → Int32) → (Nat → Int32) → Int32 → Option (Int32 × (Nat → Nat → Int32) × (Nat → Int32))} {res : Int32 × (Nat → Nat → Int32) × (Nat → Int32)}  (hk107 : ∀ (A0 : Nat → Nat → Int32) (f0 : Nat → Int32) (l4 : Int32), k107 A0 f0 l4 = some res → ∀ (H : Heap) (locs : List Loc) (ls : Array Slot), WD G DA (wX10 G h0 a0 f0 A0) H → va_S DA s.heap H locs → lv_has ls 5 [(0, .ref h0), (1, .int p1), (2, .int p2), (4, .int l4)] → W p l e rmX10_beat s m args below meth c H locs 0 0 (MQ below (QI G DA res.1 (wX10 G h0 a0 res.2.2 res.2.1)) args s 0 0 DA) (F0 m 107 ls [])) : ∀ (A0 : Nat → Nat → Int32) (f0 : Nat → Int32) (l4 : Int32), f10_beat_b107 p1 p2  k107 A0 f0 l4 = some res → ∀ (H : Heap) (locs : List Loc) (ls : Array Slot), WD G DA (wX10 G h0 a0 f0 A0) H → va_S DA s.heap H locs → lv_has ls 5 [(0, .ref h0), (1, .int p1), (2, .int p2), (4, .int l4)] → W p l e rmX10_beat s m args below meth c H locs 0 0 (MQ below (QI G DA res.1 (wX10 G h0 a0 res.2.2 res.2.1)) args s 0 0 DA) (F0 m 107 ls []) := by
  obtain ⟨hx, hb, hml, hown, hts⟩ := C0.1
  have hK := C0.2.2.2.1
  intro A0 f0 l4 h _ _ _ hPD hS hl
  unfold f10_beat_b107 at h
  refine lv_iload hx hb dX10_beat_107 (lv_at hl 3 rfl) ?_
  refine lv_aload_n hx hb dX10_beat_109 rfl (lv_at hl 0 rfl) ?_
  refine va_get (D := G.1) (ci := 10) (v := .int (f0 35)) (C := RX10) (T := TX10) (N := 52) hx hb hts inlX10 hown hK hPD.1 0 rfl rfl 35 (by decide) (hts _ gw_677) (fun _ h9 => h9) rfl dX10_beat_110 ?_
  refine lv_icmp_ge (tgt := 141) hx hb dX10_beat_113 (by decide) (fun cc1 => ?_) (fun cc1 => ?_)
  · have h := (if_pos cc1).symm.trans h
    refine lv_aload_n hx hb dX10_beat_141 rfl (lv_at hl 0 rfl) ?_
    refine va_get (D := G.1) (ci := 10) (v := .int (f0 35)) (C := RX10) (T := TX10) (N := 52) hx hb hts inlX10 hown hK hPD.1 0 rfl rfl 35 (by decide) (hts _ gw_677) (fun _ h9 => h9) rfl dX10_beat_142 ?_
    obtain rfl := Option.some.inj h
    exact eI C0 hPD.1 hPD.2 hS rfl dX10_beat_145
  · have h := (if_neg cc1).symm.trans h
    refine lv_aload_n hx hb dX10_beat_116 rfl (lv_at hl 0 rfl) ?_
    refine va_get (D := G.1) (ci := 10) (v := .ref (a0 5)) (C := RX10) (T := TX10) (N := 52) hx hb hts inlX10 hown hK hPD.1 0 rfl rfl 5 (by decide) (hts _ gw_696) (fun _ h9 => h9) rfl dX10_beat_117 ?_
    refine lv_bipush (v := 48) hx hb dX10_beat_120 (by decide) ?_
    refine lv_iload_n hx hb dX10_beat_122 rfl (lv_at hl 1 rfl) ?_
    refine lv_imul hx hb dX10_beat_123 ?_
    refine lv_iload hx hb dX10_beat_124 (lv_at hl 3 rfl) ?_
    refine lv_iadd hx hb dX10_beat_126 ?_
    refine lv_aload_n hx hb dX10_beat_127 rfl (lv_at hl 0 rfl) ?_
    refine va_get (D := G.1) (ci := 10) (v := .ref (a0 31)) (C := RX10) (T := TX10) (N := 52) hx hb hts inlX10 hown hK hPD.1 0 rfl rfl 31 (by decide) (hts _ gw_678) (fun _ h9 => h9) rfl dX10_beat_128 ?_
    refine lv_iload hx hb dX10_beat_131 (lv_at hl 3 rfl) ?_
    obtain ⟨hi_8, h⟩ := ob h
    refine va_iald hx hb hK hPD.1 21 1 rfl rfl hi_8 dX10_beat_133 ?_
    obtain ⟨hi_9, h⟩ := ob h
    refine va_iast hx hb hK hPD.1 hPD.2 hS 6 1 rfl rfl hi_9 dX10_beat_134 (fun H locs hP hD hS => ?_)
    obtain ⟨A0_10, eA0_10, h⟩ := lvl h
    have hPD : WD G DA (wX10 G h0 a0 f0 A0_10) H := by rw [eA0_10]; exact ⟨hP, hD⟩
    clear eA0_10 hP hD
    refine lv_iinc (v := l4 + 1) (lv' := [(4, .int (l4 + 1)), (0, .ref h0), (1, .int p1), (2, .int p2)]) hx hb dX10_beat_135 hl (k := 3) rfl rfl (by decide) rfl (fun ls hl => ?_)
    refine lv_goto (tgt := 107) hx hb dX10_beat_138 (by decide) ?_
    exact hk107 A0_10 f0 (l4 + 1) h _ _ _ hPD hS (lv_sub hl [1, 2, 3, 0] rfl)
set_option maxRecDepth 100000 in
set_option maxHeartbeats 4000000 in
theorem ww_f10_beat_l107  (C0 : Cx cX10_beat 5 (some .int) RX10 p s m args meth c G DA) {h0 : Nat} {a0 : Nat → Nat} {p1 : Int32} {p2 : Int32}   {res : Int32 × (Nat → Nat → Int32) × (Nat → Int32)}  : ∀ (n : Nat) (A0 : Nat → Nat → Int32) (f0 : Nat → Int32) (l4 : Int32), f10_beat_l107 p1 p2  n A0 f0 l4 = some res → ∀ (H : Heap) (locs : List Loc) (ls : Array Slot), WD G DA (wX10 G h0 a0 f0 A0) H → va_S DA s.heap H locs → lv_has ls 5 [(0, .ref h0), (1, .int p1), (2, .int p2), (4, .int l4)] → W p l e rmX10_beat s m args below meth c H locs 0 0 (MQ below (QI G DA res.1 (wX10 G h0 a0 res.2.2 res.2.1)) args s 0 0 DA) (F0 m 107 ls []) := by
  intro n
  induction n with
  | zero => intro A0 f0 l4 h; cases h
  | succ n ih => intro A0 f0 l4 h; exact ww_f10_beat_b107 C0  ih A0 f0 l4 h
set_option maxRecDepth 100000 in
set_option maxHeartbeats 4000000 in
theorem ww_f10_beat_b80  (C0 : Cx cX10_beat 5 (some .int) RX10 p s m args meth c G DA) {h0 : Nat} {a0 : Nat → Nat} {p1 : Int32} {p2 : Int32}   {res : Int32 × (Nat → Nat → Int32) × (Nat → Int32)}  : ∀ (A0 : Nat → Nat → Int32) (f0 : Nat → Int32) (l3 : Int32), f10_beat_b80 p1 p2  A0 f0 l3 = some res → ∀ (H : Heap) (locs : List Loc) (ls : Array Slot), WD G DA (wX10 G h0 a0 f0 A0) H → va_S DA s.heap H locs → lv_has ls 5 [(0, .ref h0), (1, .int p1), (2, .int p2), (3, .int l3)] → W p l e rmX10_beat s m args below meth c H locs 0 0 (MQ below (QI G DA res.1 (wX10 G h0 a0 res.2.2 res.2.1)) args s 0 0 DA) (F0 m 80 ls []) := by
  obtain ⟨hx, hb, hml, hown, hts⟩ := C0.1
  have hK := C0.2.2.2.1
  intro A0 f0 l3 h _ _ _ hPD hS hl
  unfold f10_beat_b80 at h
  refine lv_aload_n hx hb dX10_beat_80 rfl (lv_at hl 0 rfl) ?_
  refine lv_iconst (v := 0) hx hb dX10_beat_81 (by decide) ?_
  refine va_put (D := G.1) (ci := 10) (v := .int 0) (ty := .int) (C := RX10) (T := TX10) (N := 52) hx hb hts inlX10 tyX10 tyX10_ok nmX10 hown hK hPD.1 hPD.2 hS 0 rfl rfl 8 (by decide) (hts _ gw_546) (fun _ h9 => h9) rfl (by decide +kernel) rfl rfl (Nat.le_of_ble_eq_true rfl) dX10_beat_82 (fun H locs hP hD hS => ?_)
  obtain ⟨f0_5, ef0_5, h⟩ := lvl h
  have hPD : WD G DA (wX10 G h0 a0 f0_5 A0) H := by rw [ef0_5]; exact ⟨hP, hD⟩
  clear ef0_5 hP hD
  refine lv_iload_n hx hb dX10_beat_85 rfl (lv_at hl 3 rfl) ?_
  refine lv_if_ne (tgt := 94) hx hb dX10_beat_86 (by decide) (fun cc1 => ?_) (fun cc1 => ?_)
  · have h := (if_neg cc1).symm.trans h
    refine lv_aload_n hx hb dX10_beat_94 rfl (lv_at hl 0 rfl) ?_
    refine va_get (D := G.1) (ci := 10) (v := .ref (a0 4)) (C := RX10) (T := TX10) (N := 52) hx hb hts inlX10 hown hK hPD.1 0 rfl rfl 4 (by decide) (hts _ gw_695) (fun _ h9 => h9) rfl dX10_beat_95 ?_
    refine lv_iload_n hx hb dX10_beat_98 rfl (lv_at hl 1 rfl) ?_
    refine lv_aload_n hx hb dX10_beat_99 rfl (lv_at hl 0 rfl) ?_
    refine va_get (D := G.1) (ci := 10) (v := .int (f0_5 35)) (C := RX10) (T := TX10) (N := 52) hx hb hts inlX10 hown hK hPD.1 0 rfl rfl 35 (by decide) (hts _ gw_677) (fun _ h9 => h9) rfl dX10_beat_100 ?_
    obtain ⟨hi_6, h⟩ := ob h
    refine va_iast hx hb hK hPD.1 hPD.2 hS 5 1 rfl rfl hi_6 dX10_beat_103 (fun H locs hP hD hS => ?_)
    obtain ⟨A0_7, eA0_7, h⟩ := lvl h
    have hPD : WD G DA (wX10 G h0 a0 f0_5 A0_7) H := by rw [eA0_7]; exact ⟨hP, hD⟩
    clear eA0_7 hP hD
    refine lv_iconst (v := 0) hx hb dX10_beat_104 (by decide) ?_
    refine lv_istore (lv' := [(4, .int 0), (0, .ref h0), (1, .int p1), (2, .int p2), (3, .int l3)]) hx hb dX10_beat_105 hl (by decide) rfl (fun ls hl => ?_)
    exact ww_f10_beat_l107 C0 NF A0_7 f0_5 0 h _ _ _ hPD hS (lv_sub hl [1, 2, 3, 0] rfl)
  · have h := (if_pos cc1).symm.trans h
    refine lv_aload_n hx hb dX10_beat_89 rfl (lv_at hl 0 rfl) ?_
    refine va_get (D := G.1) (ci := 10) (v := .int (f0_5 11)) (C := RX10) (T := TX10) (N := 52) hx hb hts inlX10 hown hK hPD.1 0 rfl rfl 11 (by decide) (hts _ gw_557) (fun _ h9 => h9) rfl dX10_beat_90 ?_
    obtain rfl := Option.some.inj h
    exact eI C0 hPD.1 hPD.2 hS rfl dX10_beat_93
set_option maxRecDepth 100000 in
set_option maxHeartbeats 4000000 in
theorem ww_f10_beat_b50  (C0 : Cx cX10_beat 5 (some .int) RX10 p s m args meth c G DA) {h0 : Nat} {a0 : Nat → Nat} {p1 : Int32} {p2 : Int32}  {k50 : (Nat → Nat → Int32) → (Nat → Int32) → Int32 → Option (Int32 × (Nat → Nat → Int32) × (Nat → Int32))} {res : Int32 × (Nat → Nat → Int32) × (Nat → Int32)}  (hk50 : ∀ (A0 : Nat → Nat → Int32) (f0 : Nat → Int32) (l3 : Int32), k50 A0 f0 l3 = some res → ∀ (H : Heap) (locs : List Loc) (ls : Array Slot), WD G DA (wX10 G h0 a0 f0 A0) H → va_S DA s.heap H locs → lv_has ls 5 [(0, .ref h0), (1, .int p1), (2, .int p2), (3, .int l3)] → W p l e rmX10_beat s m args below meth c H locs 0 0 (MQ below (QI G DA res.1 (wX10 G h0 a0 res.2.2 res.2.1)) args s 0 0 DA) (F0 m 50 ls [])) : ∀ (A0 : Nat → Nat → Int32) (f0 : Nat → Int32) (l3 : Int32), f10_beat_b50 p1 p2  k50 A0 f0 l3 = some res → ∀ (H : Heap) (locs : List Loc) (ls : Array Slot), WD G DA (wX10 G h0 a0 f0 A0) H → va_S DA s.heap H locs → lv_has ls 5 [(0, .ref h0), (1, .int p1), (2, .int p2), (3, .int l3)] → W p l e rmX10_beat s m args below meth c H locs 0 0 (MQ below (QI G DA res.1 (wX10 G h0 a0 res.2.2 res.2.1)) args s 0 0 DA) (F0 m 50 ls []) := by
  obtain ⟨hx, hb, hml, hown, hts⟩ := C0.1
  have hK := C0.2.2.2.1
  intro A0 f0 l3 h _ _ _ hPD hS hl
  unfold f10_beat_b50 at h
  refine lv_iload_n hx hb dX10_beat_50 rfl (lv_at hl 3 rfl) ?_
  refine lv_if_eq (tgt := 80) hx hb dX10_beat_51 (by decide) (fun cc1 => ?_) (fun cc1 => ?_)
  · have h := (if_pos cc1).symm.trans h
    exact ww_f10_beat_b80 C0 A0 f0 l3 h _ _ _ hPD hS (lv_sub hl [0, 1, 2, 3] rfl)
  · have h := (if_neg cc1).symm.trans h
    refine lv_aload_n hx hb dX10_beat_54 rfl (lv_at hl 0 rfl) ?_
    refine va_get (D := G.1) (ci := 10) (v := .int (f0 9)) (C := RX10) (T := TX10) (N := 52) hx hb hts inlX10 hown hK hPD.1 0 rfl rfl 9 (by decide) (hts _ gw_551) (fun _ h9 => h9) rfl dX10_beat_55 ?_
    refine lv_aload_n hx hb dX10_beat_58 rfl (lv_at hl 0 rfl) ?_
    refine va_get (D := G.1) (ci := 10) (v := .int (f0 10)) (C := RX10) (T := TX10) (N := 52) hx hb hts inlX10 hown hK hPD.1 0 rfl rfl 10 (by decide) (hts _ gw_552) (fun _ h9 => h9) rfl dX10_beat_59 ?_
    refine lv_icmp_lt (tgt := 72) hx hb dX10_beat_62 (by decide) (fun cc1 => ?_) (fun cc1 => ?_)
    · have h := (if_pos cc1).symm.trans h
      refine lv_aload_n hx hb dX10_beat_72 rfl (lv_at hl 0 rfl) ?_
      obtain ⟨q_11, hq_11, h⟩ := ob2 h
      refine kVI (As := []) (rest := []) C0 (kt_X10_readsStep l G h0 a0 f0 A0 hq_11) gi_V_X10_268_X10_readsStep (n := 0) rfl (by decide +kernel) rfl ⟨rfl, rfl, Nat.le_of_ble_eq_true rfl, Nat.le_of_ble_eq_true rfl⟩ hPD hS 0 10 rfl rfl rfl [0, 1, 2, 3, 4, 5, 6, 7, 8, 9, 10, 11, 12, 13, 14, 15, 16, 17, 18, 19, 20, 21, 22, 23, 24, 25, 26, 27, 28, 29, 30, 31, 32, 33] [] [0, 1, 2, 3, 4, 5, 6, 7, 8, 9, 10, 11, 12, 13, 14, 15, 16, 17, 18, 19, 20, 21, 22, 23, 24, 25, 26, 27, 28, 29, 30, 31, 32, 33] (wr := ([] : va_W)) (wN := (wX10 G h0 a0 q_11.2.2 q_11.2.1)) rfl rfl rfl rfl rfl hl.1 (Nat.le_of_ble_eq_true rfl) dX10_beat_73 (fun H locs hPD hS => ?_)
      refine lv_istore_n (lv' := [(3, .int q_11.1), (0, .ref h0), (1, .int p1), (2, .int p2)]) hx hb dX10_beat_76 rfl hl (by decide) rfl (fun ls hl => ?_)
      refine lv_goto (tgt := 50) hx hb dX10_beat_77 (by decide) ?_
      exact hk50 q_11.2.1 q_11.2.2 q_11.1 h _ _ _ hPD hS (lv_sub hl [1, 2, 3, 0] rfl)
    · have h := (if_neg cc1).symm.trans h
      refine lv_aload_n hx hb dX10_beat_65 rfl (lv_at hl 0 rfl) ?_
      refine va_get (D := G.1) (ci := 10) (v := .int (f0 36)) (C := RX10) (T := TX10) (N := 52) hx hb hts inlX10 hown hK hPD.1 0 rfl rfl 36 (by decide) (hts _ gw_687) (fun _ h9 => h9) rfl dX10_beat_66 ?_
      refine lv_if_le (tgt := 80) hx hb dX10_beat_69 (by decide) (fun cc1 => ?_) (fun cc1 => ?_)
      · have h := (if_pos cc1).symm.trans h
        exact ww_f10_beat_b80 C0 A0 f0 l3 h _ _ _ hPD hS (lv_sub hl [0, 1, 2, 3] rfl)
      · have h := (if_neg cc1).symm.trans h
        refine lv_aload_n hx hb dX10_beat_72 rfl (lv_at hl 0 rfl) ?_
        obtain ⟨q_12, hq_12, h⟩ := ob2 h
        refine kVI (As := []) (rest := []) C0 (kt_X10_readsStep l G h0 a0 f0 A0 hq_12) gi_V_X10_268_X10_readsStep (n := 0) rfl (by decide +kernel) rfl ⟨rfl, rfl, Nat.le_of_ble_eq_true rfl, Nat.le_of_ble_eq_true rfl⟩ hPD hS 0 10 rfl rfl rfl [0, 1, 2, 3, 4, 5, 6, 7, 8, 9, 10, 11, 12, 13, 14, 15, 16, 17, 18, 19, 20, 21, 22, 23, 24, 25, 26, 27, 28, 29, 30, 31, 32, 33] [] [0, 1, 2, 3, 4, 5, 6, 7, 8, 9, 10, 11, 12, 13, 14, 15, 16, 17, 18, 19, 20, 21, 22, 23, 24, 25, 26, 27, 28, 29, 30, 31, 32, 33] (wr := ([] : va_W)) (wN := (wX10 G h0 a0 q_12.2.2 q_12.2.1)) rfl rfl rfl rfl rfl hl.1 (Nat.le_of_ble_eq_true rfl) dX10_beat_73 (fun H locs hPD hS => ?_)
        refine lv_istore_n (lv' := [(3, .int q_12.1), (0, .ref h0), (1, .int p1), (2, .int p2)]) hx hb dX10_beat_76 rfl hl (by decide) rfl (fun ls hl => ?_)
        refine lv_goto (tgt := 50) hx hb dX10_beat_77 (by decide) ?_
        exact hk50 q_12.2.1 q_12.2.2 q_12.1 h _ _ _ hPD hS (lv_sub hl [1, 2, 3, 0] rfl)
end WALK
