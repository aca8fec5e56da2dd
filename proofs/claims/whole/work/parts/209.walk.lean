section WALK
variable {p : Program} {l : Launch} {e : Env} {s : State} {m : MethodId} {args : Array Value} {below : List Frame} {meth : Method} {c : Code} {G : Gp} {DA : Nat → Prop}
abbrev rmX10_readsCondition : Room := { frames := 6, cells := 0, slots := 0, locals := 125 }
set_option maxRecDepth 100000 in
set_option maxHeartbeats 4000000 in
theorem ww_f10_readsCondition_b75  (C0 : Cx cX10_readsCondition 1 (some .boolean) RX10 p s m args meth c G DA) {h0 : Nat} {a0 : Nat → Nat}  {k40 : (Nat → Nat → Int32) → (Nat → Int32) → Option (Int32 × (Nat → Nat → Int32) × (Nat → Int32))} {res : Int32 × (Nat → Nat → Int32) × (Nat → Int32)} (hk40 : ∀ (A0 : Nat → Nat → Int32) (f0 : Nat → Int32), k40 A0 f0 = some res → ∀ (H : Heap) (locs : List Loc) (ls : Array Slot), WD G DA (wX10 G h0 a0 f0 A0) H → va_S DA s.heap H locs → lv_has ls 1 [(0, .ref h0)] → W p l e rmX10_readsCondition s m args below meth c H locs 0 0 (MQ below (QI G DA res.1 (wX10 G h0 a0 res.2.2 res.2.1)) args s 0 0 DA) (F0 m 40 ls [])) : ∀ (A0 : Nat → Nat → Int32) (f0 : Nat → Int32) (s0 : Int32), f10_readsCondition_b75  k40 A0 f0 s0 = some res → ∀ (H : Heap) (locs : List Loc) (ls : Array Slot), WD G DA (wX10 G h0 a0 f0 A0) H → va_S DA s.heap H locs → lv_has ls 1 [(0, .ref h0)] → W p l e rmX10_readsCondition s m args below meth c H locs 0 0 (MQ below (QI G DA res.1 (wX10 G h0 a0 res.2.2 res.2.1)) args s 0 0 DA) (F0 m 75 ls [.int s0, .ref h0]) := by
  obtain ⟨hx, hb, hml, hown, hts⟩ := C0.1
  have hK := C0.2.2.2.1
  intro A0 f0 s0 h _ _ _ hPD hS hl
  unfold f10_readsCondition_b75 at h
  obtain ⟨q_7, hq_7, h⟩ := ob2 h
  refine kVI (As := [.int s0]) (rest := []) C0 (kt_X10_opens l G h0 a0 f0 A0 s0 hq_7) gi_V_X10_177_X10_opens (n := 1) rfl (by decide +kernel) rfl ⟨rfl, rfl, Nat.le_of_ble_eq_true rfl, Nat.le_of_ble_eq_true rfl⟩ hPD hS 0 10 rfl rfl rfl [0, 1, 2, 3, 4, 5, 6, 7, 8, 9, 10, 11, 12, 13, 14, 15, 16, 17, 18, 19, 20, 21, 22, 23, 24, 25, 26, 27, 28, 29, 30, 31, 32, 33] [] [0, 1, 2, 3, 4, 5, 6, 7, 8, 9, 10, 11, 12, 13, 14, 15, 16, 17, 18, 19, 20, 21, 22, 23, 24, 25, 26, 27, 28, 29, 30, 31, 32, 33] (wN := (wX10 G h0 a0 q_7.2.2 q_7.2.1)) rfl rfl rfl rfl rfl hl.1 (Nat.le_of_ble_eq_true rfl) dX10_readsCondition_75 (fun H locs hPD hS => ?_)
  refine lv_if_ne (tgt := 40) hx hb dX10_readsCondition_78 (by decide) (fun cc1 => ?_) (fun cc1 => ?_)
  · have h := (if_neg cc1).symm.trans h
    exact hk40 q_7.2.1 q_7.2.2 h _ _ _ hPD hS (lv_sub hl [0] rfl)
  · have h := (if_pos cc1).symm.trans h
    refine lv_iconst (v := 0) hx hb dX10_readsCondition_81 (by decide) ?_
    obtain rfl := Option.some.inj h
    exact eZ C0 hPD.1 hPD.2 hS rfl rfl dX10_readsCondition_82
set_option maxRecDepth 100000 in
set_option maxHeartbeats 4000000 in
theorem ww_f10_readsCondition_b58  (C0 : Cx cX10_readsCondition 1 (some .boolean) RX10 p s m args meth c G DA) {h0 : Nat} {a0 : Nat → Nat}  {k40 : (Nat → Nat → Int32) → (Nat → Int32) → Option (Int32 × (Nat → Nat → Int32) × (Nat → Int32))} {res : Int32 × (Nat → Nat → Int32) × (Nat → Int32)} (hk40 : ∀ (A0 : Nat → Nat → Int32) (f0 : Nat → Int32), k40 A0 f0 = some res → ∀ (H : Heap) (locs : List Loc) (ls : Array Slot), WD G DA (wX10 G h0 a0 f0 A0) H → va_S DA s.heap H locs → lv_has ls 1 [(0, .ref h0)] → W p l e rmX10_readsCondition s m args below meth c H locs 0 0 (MQ below (QI G DA res.1 (wX10 G h0 a0 res.2.2 res.2.1)) args s 0 0 DA) (F0 m 40 ls [])) : ∀ (A0 : Nat → Nat → Int32) (f0 : Nat → Int32), f10_readsCondition_b58  k40 A0 f0 = some res → ∀ (H : Heap) (locs : List Loc) (ls : Array Slot), WD G DA (wX10 G h0 a0 f0 A0) H → va_S DA s.heap H locs → lv_has ls 1 [(0, .ref h0)] → W p l e rmX10_readsCondition s m args below meth c H locs 0 0 (MQ below (QI G DA res.1 (wX10 G h0 a0 res.2.2 res.2.1)) args s 0 0 DA) (F0 m 58 ls []) := by
  obtain ⟨hx, hb, hml, hown, hts⟩ := C0.1
  have hK := C0.2.2.2.1
  intro A0 f0 h _ _ _ hPD hS hl
  unfold f10_readsCondition_b58 at h
  refine lv_aload_n hx hb dX10_readsCondition_58 rfl (lv_at hl 0 rfl) ?_
  refine lv_aload_n hx hb dX10_readsCondition_59 rfl (lv_at hl 0 rfl) ?_
  obtain ⟨q_6, hq_6, h⟩ := ob2 h
  refine kVI (As := []) (rest := [.ref h0]) C0 (kt_X10_here l G h0 a0 f0 A0 hq_6) gi_V_X10_144_X10_here (n := 0) rfl (by decide +kernel) rfl ⟨rfl, rfl, Nat.le_of_ble_eq_true rfl, Nat.le_of_ble_eq_true rfl⟩ hPD hS 0 10 rfl rfl rfl [0, 1, 2, 3, 4, 5, 6, 7, 8, 9, 10, 11, 12, 13, 14, 15, 16, 17, 18, 19, 20, 21, 22, 23, 24, 25, 26, 27, 28, 29, 30, 31, 32, 33] [] [0, 1, 2, 3, 4, 5, 6, 7, 8, 9, 10, 11, 12, 13, 14, 15, 16, 17, 18, 19, 20, 21, 22, 23, 24, 25, 26, 27, 28, 29, 30, 31, 32, 33] (wN := (wX10 G h0 a0 f0 A0)) rfl rfl rfl rfl rfl hl.1 (Nat.le_of_ble_eq_true rfl) dX10_readsCondition_60 (fun H locs hPD hS => ?_)
  refine lv_bipush (v := 33) hx hb dX10_readsCondition_63 (by decide) ?_
  refine lv_icmp_ne (tgt := 73) hx hb dX10_readsCondition_65 (by decide) (fun cc1 => ?_) (fun cc1 => ?_)
  · have h := (if_neg cc1).symm.trans h
    refine lv_bipush (v := 13) hx hb dX10_readsCondition_73 (by decide) ?_
    exact ww_f10_readsCondition_b75 C0 hk40 A0 f0 13 h _ _ _ hPD hS (lv_sub hl [0] rfl)
  · have h := (if_pos cc1).symm.trans h
    refine lv_bipush (v := 10) hx hb dX10_readsCondition_68 (by decide) ?_
    refine lv_goto (tgt := 75) hx hb dX10_readsCondition_70 (by decide) ?_
    exact ww_f10_readsCondition_b75 C0 hk40 A0 f0 10 h _ _ _ hPD hS (lv_sub hl [0] rfl)
set_option maxRecDepth 100000 in
set_option maxHeartbeats 4000000 in
theorem ww_f10_readsCondition_b195  (C0 : Cx cX10_readsCondition 1 (some .boolean) RX10 p s m args meth c G DA) {h0 : Nat} {a0 : Nat → Nat}  {k40 : (Nat → Nat → Int32) → (Nat → Int32) → Option (Int32 × (Nat → Nat → Int32) × (Nat → Int32))} {res : Int32 × (Nat → Nat → Int32) × (Nat → Int32)} (hk40 : ∀ (A0 : Nat → Nat → Int32) (f0 : Nat → Int32), k40 A0 f0 = some res → ∀ (H : Heap) (locs : List Loc) (ls : Array Slot), WD G DA (wX10 G h0 a0 f0 A0) H → va_S DA s.heap H locs → lv_has ls 1 [(0, .ref h0)] → W p l e rmX10_readsCondition s m args below meth c H locs 0 0 (MQ below (QI G DA res.1 (wX10 G h0 a0 res.2.2 res.2.1)) args s 0 0 DA) (F0 m 40 ls [])) : ∀ (A0 : Nat → Nat → Int32) (f0 : Nat → Int32) (s0 : Int32), f10_readsCondition_b195  k40 A0 f0 s0 = some res → ∀ (H : Heap) (locs : List Loc) (ls : Array Slot), WD G DA (wX10 G h0 a0 f0 A0) H → va_S DA s.heap H locs → lv_has ls 1 [(0, .ref h0)] → W p l e rmX10_readsCondition s m args below meth c H locs 0 0 (MQ below (QI G DA res.1 (wX10 G h0 a0 res.2.2 res.2.1)) args s 0 0 DA) (F0 m 195 ls [.int s0, .ref h0]) := by
  obtain ⟨hx, hb, hml, hown, hts⟩ := C0.1
  have hK := C0.2.2.2.1
  intro A0 f0 s0 h _ _ _ hPD hS hl
  unfold f10_readsCondition_b195 at h
  obtain ⟨q_13, hq_13, h⟩ := ob2 h
  refine kVV (As := [.int s0]) (rest := []) C0 (kt_X10_lands l G h0 a0 f0 A0 s0 hq_13) gi_V_X10_209_X10_lands (n := 1) rfl (by decide +kernel) rfl ⟨rfl, rfl, Nat.le_of_ble_eq_true rfl, Nat.le_of_ble_eq_true rfl⟩ hPD hS 0 10 rfl rfl rfl [0, 1, 2, 3, 4, 5, 6, 7, 8, 9, 10, 11, 12, 13, 14, 15, 16, 17, 18, 19, 20, 21, 22, 23, 24, 25, 26, 27, 28, 29, 30, 31, 32, 33] [] [0, 1, 2, 3, 4, 5, 6, 7, 8, 9, 10, 11, 12, 13, 14, 15, 16, 17, 18, 19, 20, 21, 22, 23, 24, 25, 26, 27, 28, 29, 30, 31, 32, 33] (wN := (wX10 G h0 a0 q_13.2 q_13.1)) rfl rfl rfl rfl rfl hl.1 (Nat.le_of_ble_eq_true rfl) dX10_readsCondition_195 (fun H locs hPD hS => ?_)
  refine lv_aload_n hx hb dX10_readsCondition_198 rfl (lv_at hl 0 rfl) ?_
  refine lv_aload_n hx hb dX10_readsCondition_199 rfl (lv_at hl 0 rfl) ?_
  obtain ⟨q_14, hq_14, h⟩ := ob2 h
  refine kVI (As := []) (rest := [.ref h0]) C0 (kt_X10_here l G h0 a0 q_13.2 q_13.1 hq_14) gi_V_X10_144_X10_here (n := 0) rfl (by decide +kernel) rfl ⟨rfl, rfl, Nat.le_of_ble_eq_true rfl, Nat.le_of_ble_eq_true rfl⟩ hPD hS 0 10 rfl rfl rfl [0, 1, 2, 3, 4, 5, 6, 7, 8, 9, 10, 11, 12, 13, 14, 15, 16, 17, 18, 19, 20, 21, 22, 23, 24, 25, 26, 27, 28, 29, 30, 31, 32, 33] [] [0, 1, 2, 3, 4, 5, 6, 7, 8, 9, 10, 11, 12, 13, 14, 15, 16, 17, 18, 19, 20, 21, 22, 23, 24, 25, 26, 27, 28, 29, 30, 31, 32, 33] (wN := (wX10 G h0 a0 q_13.2 q_13.1)) rfl rfl rfl rfl rfl hl.1 (Nat.le_of_ble_eq_true rfl) dX10_readsCondition_200 (fun H locs hPD hS => ?_)
  refine lv_bipush (v := 38) hx hb dX10_readsCondition_203 (by decide) ?_
  refine lv_icmp_ne (tgt := 213) hx hb dX10_readsCondition_205 (by decide) (fun cc1 => ?_) (fun cc1 => ?_)
  · have h := (if_neg cc1).symm.trans h
    refine lv_bipush (v := 12) hx hb dX10_readsCondition_213 (by decide) ?_
    obtain ⟨q_15, hq_15, h⟩ := ob2 h
    refine kVV (As := [.int 12]) (rest := []) C0 (kt_X10_jumps l G h0 a0 q_13.2 q_13.1 12 hq_15) gi_V_X10_212_X10_jumps (n := 1) rfl (by decide +kernel) rfl ⟨rfl, rfl, Nat.le_of_ble_eq_true rfl, Nat.le_of_ble_eq_true rfl⟩ hPD hS 0 10 rfl rfl rfl [0, 1, 2, 3, 4, 5, 6, 7, 8, 9, 10, 11, 12, 13, 14, 15, 16, 17, 18, 19, 20, 21, 22, 23, 24, 25, 26, 27, 28, 29, 30, 31, 32, 33] [] [0, 1, 2, 3, 4, 5, 6, 7, 8, 9, 10, 11, 12, 13, 14, 15, 16, 17, 18, 19, 20, 21, 22, 23, 24, 25, 26, 27, 28, 29, 30, 31, 32, 33] (wN := (wX10 G h0 a0 q_15.2 q_15.1)) rfl rfl rfl rfl rfl hl.1 (Nat.le_of_ble_eq_true rfl) dX10_readsCondition_215 (fun H locs hPD hS => ?_)
    refine lv_goto (tgt := 40) hx hb dX10_readsCondition_218 (by decide) ?_
    exact hk40 q_15.1 q_15.2 h _ _ _ hPD hS (lv_sub hl [0] rfl)
  · have h := (if_pos cc1).symm.trans h
    refine lv_bipush (v := 11) hx hb dX10_readsCondition_208 (by decide) ?_
    refine lv_goto (tgt := 215) hx hb dX10_readsCondition_210 (by decide) ?_
    obtain ⟨q_16, hq_16, h⟩ := ob2 h
    refine kVV (As := [.int 11]) (rest := []) C0 (kt_X10_jumps l G h0 a0 q_13.2 q_13.1 11 hq_16) gi_V_X10_212_X10_jumps (n := 1) rfl (by decide +kernel) rfl ⟨rfl, rfl, Nat.le_of_ble_eq_true rfl, Nat.le_of_ble_eq_true rfl⟩ hPD hS 0 10 rfl rfl rfl [0, 1, 2, 3, 4, 5, 6, 7, 8, 9, 10, 11, 12, 13, 14, 15, 16, 17, 18, 19, 20, 21, 22, 23, 24, 25, 26, 27, 28, 29, 30, 31, 32, 33] [] [0, 1, 2, 3, 4, 5, 6, 7, 8, 9, 10, 11, 12, 13, 14, 15, 16, 17, 18, 19, 20, 21, 22, 23, 24, 25, 26, 27, 28, 29, 30, 31, 32, 33] (wN := (wX10 G h0 a0 q_16.2 q_16.1)) rfl rfl rfl rfl rfl hl.1 (Nat.le_of_ble_eq_true rfl) dX10_readsCondition_215 (fun H locs hPD hS => ?_)
    refine lv_goto (tgt := 40) hx hb dX10_readsCondition_218 (by decide) ?_
    exact hk40 q_16.1 q_16.2 h _ _ _ hPD hS (lv_sub hl [0] rfl)
set_option maxRecDepth 100000 in
set_option maxHeartbeats 4000000 in
theorem ww_f10_readsCondition_b180  (C0 : Cx cX10_readsCondition 1 (some .boolean) RX10 p s m args meth c G DA) {h0 : Nat} {a0 : Nat → Nat}  {k40 : (Nat → Nat → Int32) → (Nat → Int32) → Option (Int32 × (Nat → Nat → Int32) × (Nat → Int32))} {res : Int32 × (Nat → Nat → Int32) × (Nat → Int32)} (hk40 : ∀ (A0 : Nat → Nat → Int32) (f0 : Nat → Int32), k40 A0 f0 = some res → ∀ (H : Heap) (locs : List Loc) (ls : Array Slot), WD G DA (wX10 G h0 a0 f0 A0) H → va_S DA s.heap H locs → lv_has ls 1 [(0, .ref h0)] → W p l e rmX10_readsCondition s m args below meth c H locs 0 0 (MQ below (QI G DA res.1 (wX10 G h0 a0 res.2.2 res.2.1)) args s 0 0 DA) (F0 m 40 ls [])) : ∀ (A0 : Nat → Nat → Int32) (f0 : Nat → Int32), f10_readsCondition_b180  k40 A0 f0 = some res → ∀ (H : Heap) (locs : List Loc) (ls : Array Slot), WD G DA (wX10 G h0 a0 f0 A0) H → va_S DA s.heap H locs → lv_has ls 1 [(0, .ref h0)] → W p l e rmX10_readsCondition s m args below meth c H locs 0 0 (MQ below (QI G DA res.1 (wX10 G h0 a0 res.2.2 res.2.1)) args s 0 0 DA) (F0 m 180 ls []) := by
  obtain ⟨hx, hb, hml, hown, hts⟩ := C0.1
  have hK := C0.2.2.2.1
  intro A0 f0 h _ _ _ hPD hS hl
  unfold f10_readsCondition_b180 at h
  refine lv_aload_n hx hb dX10_readsCondition_180 rfl (lv_at hl 0 rfl) ?_
  refine lv_aload_n hx hb dX10_readsCondition_181 rfl (lv_at hl 0 rfl) ?_
  obtain ⟨q_12, hq_12, h⟩ := ob2 h
  refine kVI (As := []) (rest := [.ref h0]) C0 (kt_X10_here l G h0 a0 f0 A0 hq_12) gi_V_X10_144_X10_here (n := 0) rfl (by decide +kernel) rfl ⟨rfl, rfl, Nat.le_of_ble_eq_true rfl, Nat.le_of_ble_eq_true rfl⟩ hPD hS 0 10 rfl rfl rfl [0, 1, 2, 3, 4, 5, 6, 7, 8, 9, 10, 11, 12, 13, 14, 15, 16, 17, 18, 19, 20, 21, 22, 23, 24, 25, 26, 27, 28, 29, 30, 31, 32, 33] [] [0, 1, 2, 3, 4, 5, 6, 7, 8, 9, 10, 11, 12, 13, 14, 15, 16, 17, 18, 19, 20, 21, 22, 23, 24, 25, 26, 27, 28, 29, 30, 31, 32, 33] (wN := (wX10 G h0 a0 f0 A0)) rfl rfl rfl rfl rfl hl.1 (Nat.le_of_ble_eq_true rfl) dX10_readsCondition_182 (fun H locs hPD hS => ?_)
  refine lv_bipush (v := 124) hx hb dX10_readsCondition_185 (by decide) ?_
  refine lv_icmp_ne (tgt := 194) hx hb dX10_readsCondition_187 (by decide) (fun cc1 => ?_) (fun cc1 => ?_)
  · have h := (if_neg cc1).symm.trans h
    refine lv_iconst (v := 0) hx hb dX10_readsCondition_194 (by decide) ?_
    exact ww_f10_readsCondition_b195 C0 hk40 A0 f0 0 h _ _ _ hPD hS (lv_sub hl [0] rfl)
  · have h := (if_pos cc1).symm.trans h
    refine lv_iconst (v := 1) hx hb dX10_readsCondition_190 (by decide) ?_
    refine lv_goto (tgt := 195) hx hb dX10_readsCondition_191 (by decide) ?_
    exact ww_f10_readsCondition_b195 C0 hk40 A0 f0 1 h _ _ _ hPD hS (lv_sub hl [0] rfl)
set_option maxRecDepth 100000 in
set_option maxHeartbeats 4000000 in
theorem ww_f10_readsCondition_b92  (C0 : Cx cX10_readsCondition 1 (some .boolean) RX10 p s m args meth c G DA) {h0 : Nat} {a0 : Nat → Nat}  {k40 : (Nat → Nat → Int32) → (Nat → Int32) → Option (Int32 × (Nat → Nat → Int32) × (Nat → Int32))} {k92 : (Nat → Nat → Int32) → (Nat → Int32) → Option (Int32 × (Nat → Nat → Int32) × (Nat → Int32))} {res : Int32 × (Nat → Nat → Int32) × (Nat → Int32)} (hk40 : ∀ (A0 : Nat → Nat → Int32) (f0 : Nat → Int32), k40 A0 f0 = some res → ∀ (H : Heap) (locs : List Loc) (ls : Array Slot), WD G DA (wX10 G h0 a0 f0 A0) H → va_S DA s.heap H locs → lv_has ls 1 [(0, .ref h0)] → W p l e rmX10_readsCondition s m args below meth c H locs 0 0 (MQ below (QI G DA res.1 (wX10 G h0 a0 res.2.2 res.2.1)) args s 0 0 DA) (F0 m 40 ls [])) (hk92 : ∀ (A0 : Nat → Nat → Int32) (f0 : Nat → Int32), k92 A0 f0 = some res → ∀ (H : Heap) (locs : List Loc) (ls : Array Slot), WD G DA (wX10 G h0 a0 f0 A0) H → va_S DA s.heap H locs → lv_has ls 1 [(0, .ref h0)] → W p l e rmX10_readsCondition s m args below meth c H locs 0 0 (MQ below (QI G DA res.1 (wX10 G h0 a0 res.2.2 res.2.1)) args s 0 0 DA) (F0 m 92 ls [])) : ∀ (A0 : Nat → Nat → Int32) (f0 : Nat → Int32), f10_readsCondition_b92  k40 k92 A0 f0 = some res → ∀ (H : Heap) (locs : List Loc) (ls : Array Slot), WD G DA (wX10 G h0 a0 f0 A0) H → va_S DA s.heap H locs → lv_has ls 1 [(0, .ref h0)] → W p l e rmX10_readsCondition s m args below meth c H locs 0 0 (MQ below (QI G DA res.1 (wX10 G h0 a0 res.2.2 res.2.1)) args s 0 0 DA) (F0 m 92 ls []) := by
  obtain ⟨hx, hb, hml, hown, hts⟩ := C0.1
  have hK := C0.2.2.2.1
  intro A0 f0 h _ _ _ hPD hS hl
  unfold f10_readsCondition_b92 at h
  refine lv_aload_n hx hb dX10_readsCondition_92 rfl (lv_at hl 0 rfl) ?_
  obtain ⟨q_10, hq_10, h⟩ := ob2 h
  refine kVI (As := []) (rest := []) C0 (kt_X10_here l G h0 a0 f0 A0 hq_10) gi_V_X10_144_X10_here (n := 0) rfl (by decide +kernel) rfl ⟨rfl, rfl, Nat.le_of_ble_eq_true rfl, Nat.le_of_ble_eq_true rfl⟩ hPD hS 0 10 rfl rfl rfl [0, 1, 2, 3, 4, 5, 6, 7, 8, 9, 10, 11, 12, 13, 14, 15, 16, 17, 18, 19, 20, 21, 22, 23, 24, 25, 26, 27, 28, 29, 30, 31, 32, 33] [] [0, 1, 2, 3, 4, 5, 6, 7, 8, 9, 10, 11, 12, 13, 14, 15, 16, 17, 18, 19, 20, 21, 22, 23, 24, 25, 26, 27, 28, 29, 30, 31, 32, 33] (wN := (wX10 G h0 a0 f0 A0)) rfl rfl rfl rfl rfl hl.1 (Nat.le_of_ble_eq_true rfl) dX10_readsCondition_93 (fun H locs hPD hS => ?_)
  refine lv_bipush (v := 41) hx hb dX10_readsCondition_96 (by decide) ?_
  refine lv_icmp_ne (tgt := 152) hx hb dX10_readsCondition_98 (by decide) (fun cc1 => ?_) (fun cc1 => ?_)
  · have h := (if_neg cc1).symm.trans h
    refine lv_aload_n hx hb dX10_readsCondition_152 rfl (lv_at hl 0 rfl) ?_
    obtain ⟨q_11, hq_11, h⟩ := ob2 h
    refine kVI (As := []) (rest := []) C0 (kt_X10_here l G h0 a0 f0 A0 hq_11) gi_V_X10_144_X10_here (n := 0) rfl (by decide +kernel) rfl ⟨rfl, rfl, Nat.le_of_ble_eq_true rfl, Nat.le_of_ble_eq_true rfl⟩ hPD hS 0 10 rfl rfl rfl [0, 1, 2, 3, 4, 5, 6, 7, 8, 9, 10, 11, 12, 13, 14, 15, 16, 17, 18, 19, 20, 21, 22, 23, 24, 25, 26, 27, 28, 29, 30, 31, 32, 33] [] [0, 1, 2, 3, 4, 5, 6, 7, 8, 9, 10, 11, 12, 13, 14, 15, 16, 17, 18, 19, 20, 21, 22, 23, 24, 25, 26, 27, 28, 29, 30, 31, 32, 33] (wN := (wX10 G h0 a0 f0 A0)) rfl rfl rfl rfl rfl hl.1 (Nat.le_of_ble_eq_true rfl) dX10_readsCondition_153 (fun H locs hPD hS => ?_)
    refine lv_bipush (v := 38) hx hb dX10_readsCondition_156 (by decide) ?_
    refine lv_icmp_eq (tgt := 180) hx hb dX10_readsCondition_158 (by decide) (fun cc1 => ?_) (fun cc1 => ?_)
    · have h := (if_pos cc1).symm.trans h
      exact ww_f10_readsCondition_b180 C0 hk40 A0 f0 h _ _ _ hPD hS (lv_sub hl [0] rfl)
    · have h := (if_neg cc1).symm.trans h
      refine lv_aload_n hx hb dX10_readsCondition_161 rfl (lv_at hl 0 rfl) ?_
      obtain ⟨q_17, hq_17, h⟩ := ob2 h
      refine kVI (As := []) (rest := []) C0 (kt_X10_here l G h0 a0 f0 A0 hq_17) gi_V_X10_144_X10_here (n := 0) rfl (by decide +kernel) rfl ⟨rfl, rfl, Nat.le_of_ble_eq_true rfl, Nat.le_of_ble_eq_true rfl⟩ hPD hS 0 10 rfl rfl rfl [0, 1, 2, 3, 4, 5, 6, 7, 8, 9, 10, 11, 12, 13, 14, 15, 16, 17, 18, 19, 20, 21, 22, 23, 24, 25, 26, 27, 28, 29, 30, 31, 32, 33] [] [0, 1, 2, 3, 4, 5, 6, 7, 8, 9, 10, 11, 12, 13, 14, 15, 16, 17, 18, 19, 20, 21, 22, 23, 24, 25, 26, 27, 28, 29, 30, 31, 32, 33] (wN := (wX10 G h0 a0 f0 A0)) rfl rfl rfl rfl rfl hl.1 (Nat.le_of_ble_eq_true rfl) dX10_readsCondition_162 (fun H locs hPD hS => ?_)
      refine lv_bipush (v := 124) hx hb dX10_readsCondition_165 (by decide) ?_
      refine lv_icmp_eq (tgt := 180) hx hb dX10_readsCondition_167 (by decide) (fun cc1 => ?_) (fun cc1 => ?_)
      · have h := (if_pos cc1).symm.trans h
        exact ww_f10_readsCondition_b180 C0 hk40 A0 f0 h _ _ _ hPD hS (lv_sub hl [0] rfl)
      · have h := (if_neg cc1).symm.trans h
        refine lv_aload_n hx hb dX10_readsCondition_170 rfl (lv_at hl 0 rfl) ?_
        refine lv_iconst (v := 1) hx hb dX10_readsCondition_171 (by decide) ?_
        refine lv_aload_n hx hb dX10_readsCondition_172 rfl (lv_at hl 0 rfl) ?_
        refine va_get (D := G.1) (ci := 10) (v := .int (f0 9)) (C := RX10) (T := TX10) (N := 52) hx hb hts inlX10 hown hK hPD.1 0 rfl rfl 9 (by decide) (hts _ gw_554) (fun _ h9 => h9) rfl dX10_readsCondition_173 ?_
        obtain ⟨q_18, hq_18, h⟩ := ob2 h
        refine kVI (As := [.int 1, .int (f0 9)]) (rest := []) C0 (kt_X10_wrongAt l G h0 a0 f0 A0 1 (f0 9) hq_18) gi_V_X10_151_X10_wrongAt (n := 2) rfl (by decide +kernel) rfl ⟨rfl, rfl, Nat.le_of_ble_eq_true rfl, Nat.le_of_ble_eq_true rfl⟩ hPD hS 0 10 rfl rfl rfl [0, 1, 2, 3, 4, 5, 6, 7, 8, 9, 10, 11, 12, 13, 14, 15, 16, 17, 18, 19, 20, 21, 22, 23, 24, 25, 26, 27, 28, 29, 30, 31, 32, 33] [] [0, 1, 2, 3, 4, 5, 6, 7, 8, 9, 10, 11, 12, 13, 14, 15, 16, 17, 18, 19, 20, 21, 22, 23, 24, 25, 26, 27, 28, 29, 30, 31, 32, 33] (wN := (wX10 G h0 a0 q_18.2 A0)) rfl rfl rfl rfl rfl hl.1 (Nat.le_of_ble_eq_true rfl) dX10_readsCondition_176 (fun H locs hPD hS => ?_)
        obtain ⟨hz, h⟩ := ob h
        obtain rfl := Option.some.inj h
        exact eZ C0 hPD.1 hPD.2 hS rfl (nbool (Classical.not_not.mp hz)) dX10_readsCondition_179
  · have h := (if_pos cc1).symm.trans h
    refine lv_aload_n hx hb dX10_readsCondition_101 rfl (lv_at hl 0 rfl) ?_
    refine lv_iconst (v := 1) hx hb dX10_readsCondition_102 (by decide) ?_
    obtain ⟨q_19, hq_19, h⟩ := ob2 h
    refine kVV (As := [.int 1]) (rest := []) C0 (kt_X10_lands l G h0 a0 f0 A0 1 hq_19) gi_V_X10_209_X10_lands (n := 1) rfl (by decide +kernel) rfl ⟨rfl, rfl, Nat.le_of_ble_eq_true rfl, Nat.le_of_ble_eq_true rfl⟩ hPD hS 0 10 rfl rfl rfl [0, 1, 2, 3, 4, 5, 6, 7, 8, 9, 10, 11, 12, 13, 14, 15, 16, 17, 18, 19, 20, 21, 22, 23, 24, 25, 26, 27, 28, 29, 30, 31, 32, 33] [] [0, 1, 2, 3, 4, 5, 6, 7, 8, 9, 10, 11, 12, 13, 14, 15, 16, 17, 18, 19, 20, 21, 22, 23, 24, 25, 26, 27, 28, 29, 30, 31, 32, 33] (wN := (wX10 G h0 a0 q_19.2 q_19.1)) rfl rfl rfl rfl rfl hl.1 (Nat.le_of_ble_eq_true rfl) dX10_readsCondition_103 (fun H locs hPD hS => ?_)
    refine lv_aload_n hx hb dX10_readsCondition_106 rfl (lv_at hl 0 rfl) ?_
    refine lv_aload_n hx hb dX10_readsCondition_107 rfl (lv_at hl 0 rfl) ?_
    refine va_get (D := G.1) (ci := 10) (v := .int (q_19.2 15)) (C := RX10) (T := TX10) (N := 52) hx hb hts inlX10 hown hK hPD.1 0 rfl rfl 15 (by decide) (hts _ gw_575) (fun _ h9 => h9) rfl dX10_readsCondition_108 ?_
    refine lv_iconst (v := 1) hx hb dX10_readsCondition_111 (by decide) ?_
    refine lv_isub hx hb dX10_readsCondition_112 ?_
    refine va_put (D := G.1) (ci := 10) (v := .int ((q_19.2 15) - 1)) (ty := .int) (C := RX10) (T := TX10) (N := 52) hx hb hts inlX10 tyX10 tyX10_ok nmX10 hown hK hPD.1 hPD.2 hS 0 rfl rfl 15 (by decide) (hts _ gw_575) (fun _ h9 => h9) rfl (by decide +kernel) rfl rfl (Nat.le_of_ble_eq_true rfl) dX10_readsCondition_113 (fun H locs hP hD hS => ?_)
    obtain ⟨f0_20, ef0_20, h⟩ := lvl h
    have hPD : WD G DA (wX10 G h0 a0 f0_20 q_19.1) H := by rw [ef0_20]; exact ⟨hP, hD⟩
    clear ef0_20 hP hD
    refine lv_aload_n hx hb dX10_readsCondition_116 rfl (lv_at hl 0 rfl) ?_
    refine lv_aload_n hx hb dX10_readsCondition_117 rfl (lv_at hl 0 rfl) ?_
    refine va_get (D := G.1) (ci := 10) (v := .int (f0_20 13)) (C := RX10) (T := TX10) (N := 52) hx hb hts inlX10 hown hK hPD.1 0 rfl rfl 13 (by decide) (hts _ gw_573) (fun _ h9 => h9) rfl dX10_readsCondition_118 ?_
    refine lv_iconst (v := 1) hx hb dX10_readsCondition_121 (by decide) ?_
    refine lv_isub hx hb dX10_readsCondition_122 ?_
    refine va_put (D := G.1) (ci := 10) (v := .int ((f0_20 13) - 1)) (ty := .int) (C := RX10) (T := TX10) (N := 52) hx hb hts inlX10 tyX10 tyX10_ok nmX10 hown hK hPD.1 hPD.2 hS 0 rfl rfl 13 (by decide) (hts _ gw_573) (fun _ h9 => h9) rfl (by decide +kernel) rfl rfl (Nat.le_of_ble_eq_true rfl) dX10_readsCondition_123 (fun H locs hP hD hS => ?_)
    obtain ⟨f0_21, ef0_21, h⟩ := lvl h
    have hPD : WD G DA (wX10 G h0 a0 f0_21 q_19.1) H := by rw [ef0_21]; exact ⟨hP, hD⟩
    clear ef0_21 hP hD
    refine lv_aload_n hx hb dX10_readsCondition_126 rfl (lv_at hl 0 rfl) ?_
    refine lv_aload_n hx hb dX10_readsCondition_127 rfl (lv_at hl 0 rfl) ?_
    refine va_get (D := G.1) (ci := 10) (v := .int (f0_21 9)) (C := RX10) (T := TX10) (N := 52) hx hb hts inlX10 hown hK hPD.1 0 rfl rfl 9 (by decide) (hts _ gw_554) (fun _ h9 => h9) rfl dX10_readsCondition_128 ?_
    refine lv_iconst (v := 1) hx hb dX10_readsCondition_131 (by decide) ?_
    refine lv_iadd hx hb dX10_readsCondition_132 ?_
    refine va_put (D := G.1) (ci := 10) (v := .int ((f0_21 9) + 1)) (ty := .int) (C := RX10) (T := TX10) (N := 52) hx hb hts inlX10 tyX10 tyX10_ok nmX10 hown hK hPD.1 hPD.2 hS 0 rfl rfl 9 (by decide) (hts _ gw_554) (fun _ h9 => h9) rfl (by decide +kernel) rfl rfl (Nat.le_of_ble_eq_true rfl) dX10_readsCondition_133 (fun H locs hP hD hS => ?_)
    obtain ⟨f0_22, ef0_22, h⟩ := lvl h
    have hPD : WD G DA (wX10 G h0 a0 f0_22 q_19.1) H := by rw [ef0_22]; exact ⟨hP, hD⟩
    clear ef0_22 hP hD
    refine lv_aload_n hx hb dX10_readsCondition_136 rfl (lv_at hl 0 rfl) ?_
    refine va_get (D := G.1) (ci := 10) (v := .int (f0_22 15)) (C := RX10) (T := TX10) (N := 52) hx hb hts inlX10 hown hK hPD.1 0 rfl rfl 15 (by decide) (hts _ gw_575) (fun _ h9 => h9) rfl dX10_readsCondition_137 ?_
    refine lv_if_ne (tgt := 145) hx hb dX10_readsCondition_140 (by decide) (fun cc1 => ?_) (fun cc1 => ?_)
    · have h := (if_neg cc1).symm.trans h
      refine lv_aload_n hx hb dX10_readsCondition_145 rfl (lv_at hl 0 rfl) ?_
      obtain ⟨q_23, hq_23, h⟩ := ob2 h
      refine kVV (As := []) (rest := []) C0 (kt_X10_endsPiece l G h0 a0 f0_22 q_19.1 hq_23) gi_V_X10_203_X10_endsPiece (n := 0) rfl (by decide +kernel) rfl ⟨rfl, rfl, Nat.le_of_ble_eq_true rfl, Nat.le_of_ble_eq_true rfl⟩ hPD hS 0 10 rfl rfl rfl [0, 1, 2, 3, 4, 5, 6, 7, 8, 9, 10, 11, 12, 13, 14, 15, 16, 17, 18, 19, 20, 21, 22, 23, 24, 25, 26, 27, 28, 29, 30, 31, 32, 33] [] [0, 1, 2, 3, 4, 5, 6, 7, 8, 9, 10, 11, 12, 13, 14, 15, 16, 17, 18, 19, 20, 21, 22, 23, 24, 25, 26, 27, 28, 29, 30, 31, 32, 33] (wN := (wX10 G h0 a0 q_23.2 q_23.1)) rfl rfl rfl rfl rfl hl.1 (Nat.le_of_ble_eq_true rfl) dX10_readsCondition_146 (fun H locs hPD hS => ?_)
      refine lv_goto (tgt := 92) hx hb dX10_readsCondition_149 (by decide) ?_
      exact hk92 q_23.1 q_23.2 h _ _ _ hPD hS (lv_sub hl [0] rfl)
    · have h := (if_pos cc1).symm.trans h
      refine lv_iconst (v := 1) hx hb dX10_readsCondition_143 (by decide) ?_
      obtain rfl := Option.some.inj h
      exact eZ C0 hPD.1 hPD.2 hS rfl rfl dX10_readsCondition_144
set_option maxRecDepth 100000 in
set_option maxHeartbeats 4000000 in
theorem ww_f10_readsCondition_l92  (C0 : Cx cX10_readsCondition 1 (some .boolean) RX10 p s m args meth c G DA) {h0 : Nat} {a0 : Nat → Nat}  {k40 : (Nat → Nat → Int32) → (Nat → Int32) → Option (Int32 × (Nat → Nat → Int32) × (Nat → Int32))} {res : Int32 × (Nat → Nat → Int32) × (Nat → Int32)} (hk40 : ∀ (A0 : Nat → Nat → Int32) (f0 : Nat → Int32), k40 A0 f0 = some res → ∀ (H : Heap) (locs : List Loc) (ls : Array Slot), WD G DA (wX10 G h0 a0 f0 A0) H → va_S DA s.heap H locs → lv_has ls 1 [(0, .ref h0)] → W p l e rmX10_readsCondition s m args below meth c H locs 0 0 (MQ below (QI G DA res.1 (wX10 G h0 a0 res.2.2 res.2.1)) args s 0 0 DA) (F0 m 40 ls [])) : ∀ (n : Nat) (A0 : Nat → Nat → Int32) (f0 : Nat → Int32), f10_readsCondition_l92  k40 n A0 f0 = some res → ∀ (H : Heap) (locs : List Loc) (ls : Array Slot), WD G DA (wX10 G h0 a0 f0 A0) H → va_S DA s.heap H locs → lv_has ls 1 [(0, .ref h0)] → W p l e rmX10_readsCondition s m args below meth c H locs 0 0 (MQ below (QI G DA res.1 (wX10 G h0 a0 res.2.2 res.2.1)) args s 0 0 DA) (F0 m 92 ls []) := by
  intro n
  induction n with
  | zero => intro A0 f0 h; cases h
  | succ n ih => intro A0 f0 h; exact ww_f10_readsCondition_b92 C0 hk40 ih A0 f0 h
set_option maxRecDepth 100000 in
set_option maxHeartbeats 4000000 in
theorem ww_f10_readsCondition_b40  (C0 : Cx cX10_readsCondition 1 (some .boolean) RX10 p s m args meth c G DA) {h0 : Nat} {a0 : Nat → Nat}  {k40 : (Nat → Nat → Int32) → (Nat → Int32) → Option (Int32 × (Nat → Nat → Int32) × (Nat → Int32))} {res : Int32 × (Nat → Nat → Int32) × (Nat → Int32)}  (hk40 : ∀ (A0 : Nat → Nat → Int32) (f0 : Nat → Int32), k40 A0 f0 = some res → ∀ (H : Heap) (locs : List Loc) (ls : Array Slot), WD G DA (wX10 G h0 a0 f0 A0) H → va_S DA s.heap H locs → lv_has ls 1 [(0, .ref h0)] → W p l e rmX10_readsCondition s m args below meth c H locs 0 0 (MQ below (QI G DA res.1 (wX10 G h0 a0 res.2.2 res.2.1)) args s 0 0 DA) (F0 m 40 ls [])) : ∀ (A0 : Nat → Nat → Int32) (f0 : Nat → Int32), f10_readsCondition_b40   k40 A0 f0 = some res → ∀ (H : Heap) (locs : List Loc) (ls : Array Slot), WD G DA (wX10 G h0 a0 f0 A0) H → va_S DA s.heap H locs → lv_has ls 1 [(0, .ref h0)] → W p l e rmX10_readsCondition s m args below meth c H locs 0 0 (MQ below (QI G DA res.1 (wX10 G h0 a0 res.2.2 res.2.1)) args s 0 0 DA) (F0 m 40 ls []) := by
  obtain ⟨hx, hb, hml, hown, hts⟩ := C0.1
  have hK := C0.2.2.2.1
  intro A0 f0 h _ _ _ hPD hS hl
  unfold f10_readsCondition_b40 at h
  refine lv_aload_n hx hb dX10_readsCondition_40 rfl (lv_at hl 0 rfl) ?_
  obtain ⟨q_5, hq_5, h⟩ := ob2 h
  refine kVI (As := []) (rest := []) C0 (kt_X10_here l G h0 a0 f0 A0 hq_5) gi_V_X10_144_X10_here (n := 0) rfl (by decide +kernel) rfl ⟨rfl, rfl, Nat.le_of_ble_eq_true rfl, Nat.le_of_ble_eq_true rfl⟩ hPD hS 0 10 rfl rfl rfl [0, 1, 2, 3, 4, 5, 6, 7, 8, 9, 10, 11, 12, 13, 14, 15, 16, 17, 18, 19, 20, 21, 22, 23, 24, 25, 26, 27, 28, 29, 30, 31, 32, 33] [] [0, 1, 2, 3, 4, 5, 6, 7, 8, 9, 10, 11, 12, 13, 14, 15, 16, 17, 18, 19, 20, 21, 22, 23, 24, 25, 26, 27, 28, 29, 30, 31, 32, 33] (wN := (wX10 G h0 a0 f0 A0)) rfl rfl rfl rfl rfl hl.1 (Nat.le_of_ble_eq_true rfl) dX10_readsCondition_41 (fun H locs hPD hS => ?_)
  refine lv_bipush (v := 33) hx hb dX10_readsCondition_44 (by decide) ?_
  refine lv_icmp_eq (tgt := 58) hx hb dX10_readsCondition_46 (by decide) (fun cc1 => ?_) (fun cc1 => ?_)
  · have h := (if_pos cc1).symm.trans h
    exact ww_f10_readsCondition_b58 C0 hk40 A0 f0 h _ _ _ hPD hS (lv_sub hl [0] rfl)
  · have h := (if_neg cc1).symm.trans h
    refine lv_aload_n hx hb dX10_readsCondition_49 rfl (lv_at hl 0 rfl) ?_
    obtain ⟨q_8, hq_8, h⟩ := ob2 h
    refine kVI (As := []) (rest := []) C0 (kt_X10_here l G h0 a0 f0 A0 hq_8) gi_V_X10_144_X10_here (n := 0) rfl (by decide +kernel) rfl ⟨rfl, rfl, Nat.le_of_ble_eq_true rfl, Nat.le_of_ble_eq_true rfl⟩ hPD hS 0 10 rfl rfl rfl [0, 1, 2, 3, 4, 5, 6, 7, 8, 9, 10, 11, 12, 13, 14, 15, 16, 17, 18, 19, 20, 21, 22, 23, 24, 25, 26, 27, 28, 29, 30, 31, 32, 33] [] [0, 1, 2, 3, 4, 5, 6, 7, 8, 9, 10, 11, 12, 13, 14, 15, 16, 17, 18, 19, 20, 21, 22, 23, 24, 25, 26, 27, 28, 29, 30, 31, 32, 33] (wN := (wX10 G h0 a0 f0 A0)) rfl rfl rfl rfl rfl hl.1 (Nat.le_of_ble_eq_true rfl) dX10_readsCondition_50 (fun H locs hPD hS => ?_)
    refine lv_bipush (v := 40) hx hb dX10_readsCondition_53 (by decide) ?_
    refine lv_icmp_ne (tgt := 83) hx hb dX10_readsCondition_55 (by decide) (fun cc1 => ?_) (fun cc1 => ?_)
    · have h := (if_neg cc1).symm.trans h
      refine lv_aload_n hx hb dX10_readsCondition_83 rfl (lv_at hl 0 rfl) ?_
      obtain ⟨q_9, hq_9, h⟩ := ob2 h
      refine kVI (As := []) (rest := []) C0 (kt_X10_readsCompared l G h0 a0 f0 A0 hq_9) gi_V_X10_206_X10_readsCompared (n := 0) rfl (by decide +kernel) rfl ⟨rfl, rfl, Nat.le_of_ble_eq_true rfl, Nat.le_of_ble_eq_true rfl⟩ hPD hS 0 10 rfl rfl rfl [0, 1, 2, 3, 4, 5, 6, 7, 8, 9, 10, 11, 12, 13, 14, 15, 16, 17, 18, 19, 20, 21, 22, 23, 24, 25, 26, 27, 28, 29, 30, 31, 32, 33] [] [0, 1, 2, 3, 4, 5, 6, 7, 8, 9, 10, 11, 12, 13, 14, 15, 16, 17, 18, 19, 20, 21, 22, 23, 24, 25, 26, 27, 28, 29, 30, 31, 32, 33] (wN := (wX10 G h0 a0 q_9.2.2 q_9.2.1)) rfl rfl rfl rfl rfl hl.1 (Nat.le_of_ble_eq_true rfl) dX10_readsCondition_84 (fun H locs hPD hS => ?_)
      refine lv_if_ne (tgt := 92) hx hb dX10_readsCondition_87 (by decide) (fun cc1 => ?_) (fun cc1 => ?_)
      · have h := (if_neg cc1).symm.trans h
        exact ww_f10_readsCondition_l92 C0 hk40 NF q_9.2.1 q_9.2.2 h _ _ _ hPD hS (lv_sub hl [0] rfl)
      · have h := (if_pos cc1).symm.trans h
        refine lv_iconst (v := 0) hx hb dX10_readsCondition_90 (by decide) ?_
        obtain rfl := Option.some.inj h
        exact eZ C0 hPD.1 hPD.2 hS rfl rfl dX10_readsCondition_91
    · have h := (if_pos cc1).symm.trans h
      exact ww_f10_readsCondition_b58 C0 hk40 A0 f0 h _ _ _ hPD hS (lv_sub hl [0] rfl)
set_option maxRecDepth 100000 in
set_option maxHeartbeats 4000000 in
theorem ww_f10_readsCondition_l40  (C0 : Cx cX10_readsCondition 1 (some .boolean) RX10 p s m args meth c G DA) {h0 : Nat} {a0 : Nat → Nat}   {res : Int32 × (Nat → Nat → Int32) × (Nat → Int32)}  : ∀ (n : Nat) (A0 : Nat → Nat → Int32) (f0 : Nat → Int32), f10_readsCondition_l40   n A0 f0 = some res → ∀ (H : Heap) (locs : List Loc) (ls : Array Slot), WD G DA (wX10 G h0 a0 f0 A0) H → va_S DA s.heap H locs → lv_has ls 1 [(0, .ref h0)] → W p l e rmX10_readsCondition s m args below meth c H locs 0 0 (MQ below (QI G DA res.1 (wX10 G h0 a0 res.2.2 res.2.1)) args s 0 0 DA) (F0 m 40 ls []) := by
  intro n
  induction n with
  | zero => intro A0 f0 h; cases h
  | succ n ih => intro A0 f0 h; exact ww_f10_readsCondition_b40 C0  ih A0 f0 h
set_option maxRecDepth 100000 in
set_option maxHeartbeats 4000000 in
theorem kt_X10_readsCondition (l : Launch) (G : Gp) (h0 : Nat) (a0 : Nat → Nat) (f0 : Nat → Int32) (A0 : Nat → Nat → Int32) : ∀ {r : Int32 × (Nat → Nat → Int32) × (Nat → Int32)}, f10_readsCondition f0 A0 = some r → CtrI l yX10_readsCondition cX10_readsCondition 1 (some .boolean) rmX10_readsCondition G [.ref h0] (wX10 G h0 a0 f0 A0) r.1 (wX10 G h0 a0 r.2.2 r.2.1) := by
  intro res h
  refine ctrI_of (cc := cX10_readsCondition) (maxL := 1) (ret := (some .boolean)) (by decide +kernel) rfl (Nat.le_of_ble_eq_true rfl) (fun p e s m below meth c DA C0 hP hD ls hl => ?_)
  have hPD : WD G DA (wX10 G h0 a0 f0 A0) s.heap := ⟨hP, hD⟩
  have hS : va_S DA s.heap s.heap [] := va_S.rf
  have hl : lv_has ls 1 [(0, .ref h0)] := hl
  obtain ⟨hx, hb, hml, hown, hts⟩ := C0.1
  have hK := C0.2.2.2.1
  unfold f10_readsCondition at h
  refine lv_aload_n hx hb dX10_readsCondition_0 rfl (lv_at hl 0 rfl) ?_
  obtain ⟨q_1, hq_1, h⟩ := ob2 h
  refine kVI (As := []) (rest := []) C0 (kt_X10_here l G h0 a0 f0 A0 hq_1) gi_V_X10_144_X10_here (n := 0) rfl (by decide +kernel) rfl ⟨rfl, rfl, Nat.le_of_ble_eq_true rfl, Nat.le_of_ble_eq_true rfl⟩ hPD hS 0 10 rfl rfl rfl [0, 1, 2, 3, 4, 5, 6, 7, 8, 9, 10, 11, 12, 13, 14, 15, 16, 17, 18, 19, 20, 21, 22, 23, 24, 25, 26, 27, 28, 29, 30, 31, 32, 33] [] [0, 1, 2, 3, 4, 5, 6, 7, 8, 9, 10, 11, 12, 13, 14, 15, 16, 17, 18, 19, 20, 21, 22, 23, 24, 25, 26, 27, 28, 29, 30, 31, 32, 33] (wN := (wX10 G h0 a0 f0 A0)) rfl rfl rfl rfl rfl hl.1 (Nat.le_of_ble_eq_true rfl) dX10_readsCondition_1 (fun H locs hPD hS => ?_)
  refine lv_bipush (v := 40) hx hb dX10_readsCondition_4 (by decide) ?_
  refine lv_icmp_eq (tgt := 19) hx hb dX10_readsCondition_6 (by decide) (fun cc1 => ?_) (fun cc1 => ?_)
  · have h := (if_pos cc1).symm.trans h
    refine lv_aload_n hx hb dX10_readsCondition_19 rfl (lv_at hl 0 rfl) ?_
    refine lv_iconst (v := 0) hx hb dX10_readsCondition_20 (by decide) ?_
    refine va_put (D := G.1) (ci := 10) (v := .int 0) (ty := .int) (C := RX10) (T := TX10) (N := 52) hx hb hts inlX10 tyX10 tyX10_ok nmX10 hown hK hPD.1 hPD.2 hS 0 rfl rfl 13 (by decide) (hts _ gw_573) (fun _ h9 => h9) rfl (by decide +kernel) rfl rfl (Nat.le_of_ble_eq_true rfl) dX10_readsCondition_21 (fun H locs hP hD hS => ?_)
    obtain ⟨f0_2, ef0_2, h⟩ := lvl h
    have hPD : WD G DA (wX10 G h0 a0 f0_2 A0) H := by rw [ef0_2]; exact ⟨hP, hD⟩
    clear ef0_2 hP hD
    refine lv_aload_n hx hb dX10_readsCondition_24 rfl (lv_at hl 0 rfl) ?_
    refine lv_iconst (v := 0) hx hb dX10_readsCondition_25 (by decide) ?_
    refine va_put (D := G.1) (ci := 10) (v := .int 0) (ty := .int) (C := RX10) (T := TX10) (N := 52) hx hb hts inlX10 tyX10 tyX10_ok nmX10 hown hK hPD.1 hPD.2 hS 0 rfl rfl 15 (by decide) (hts _ gw_575) (fun _ h9 => h9) rfl (by decide +kernel) rfl rfl (Nat.le_of_ble_eq_true rfl) dX10_readsCondition_26 (fun H locs hP hD hS => ?_)
    obtain ⟨f0_3, ef0_3, h⟩ := lvl h
    have hPD : WD G DA (wX10 G h0 a0 f0_3 A0) H := by rw [ef0_3]; exact ⟨hP, hD⟩
    clear ef0_3 hP hD
    refine lv_aload_n hx hb dX10_readsCondition_29 rfl (lv_at hl 0 rfl) ?_
    refine lv_bipush (v := 13) hx hb dX10_readsCondition_30 (by decide) ?_
    obtain ⟨q_4, hq_4, h⟩ := ob2 h
    refine kVI (As := [.int 13]) (rest := []) C0 (kt_X10_opens l G h0 a0 f0_3 A0 13 hq_4) gi_V_X10_177_X10_opens (n := 1) rfl (by decide +kernel) rfl ⟨rfl, rfl, Nat.le_of_ble_eq_true rfl, Nat.le_of_ble_eq_true rfl⟩ hPD hS 0 10 rfl rfl rfl [0, 1, 2, 3, 4, 5, 6, 7, 8, 9, 10, 11, 12, 13, 14, 15, 16, 17, 18, 19, 20, 21, 22, 23, 24, 25, 26, 27, 28, 29, 30, 31, 32, 33] [] [0, 1, 2, 3, 4, 5, 6, 7, 8, 9, 10, 11, 12, 13, 14, 15, 16, 17, 18, 19, 20, 21, 22, 23, 24, 25, 26, 27, 28, 29, 30, 31, 32, 33] (wN := (wX10 G h0 a0 q_4.2.2 q_4.2.1)) rfl rfl rfl rfl rfl hl.1 (Nat.le_of_ble_eq_true rfl) dX10_readsCondition_32 (fun H locs hPD hS => ?_)
    refine lv_if_ne (tgt := 40) hx hb dX10_readsCondition_35 (by decide) (fun cc1 => ?_) (fun cc1 => ?_)
    · have h := (if_neg cc1).symm.trans h
      exact ww_f10_readsCondition_l40 C0 NF q_4.2.1 q_4.2.2 h _ _ _ hPD hS (lv_sub hl [0] rfl)
    · have h := (if_pos cc1).symm.trans h
      refine lv_iconst (v := 0) hx hb dX10_readsCondition_38 (by decide) ?_
      obtain rfl := Option.some.inj h
      exact eZ C0 hPD.1 hPD.2 hS rfl rfl dX10_readsCondition_39
  · have h := (if_neg cc1).symm.trans h
    refine lv_aload_n hx hb dX10_readsCondition_9 rfl (lv_at hl 0 rfl) ?_
    refine lv_iconst (v := 1) hx hb dX10_readsCondition_10 (by decide) ?_
    refine lv_aload_n hx hb dX10_readsCondition_11 rfl (lv_at hl 0 rfl) ?_
    refine va_get (D := G.1) (ci := 10) (v := .int (f0 9)) (C := RX10) (T := TX10) (N := 52) hx hb hts inlX10 hown hK hPD.1 0 rfl rfl 9 (by decide) (hts _ gw_554) (fun _ h9 => h9) rfl dX10_readsCondition_12 ?_
    obtain ⟨q_24, hq_24, h⟩ := ob2 h
    refine kVI (As := [.int 1, .int (f0 9)]) (rest := []) C0 (kt_X10_wrongAt l G h0 a0 f0 A0 1 (f0 9) hq_24) gi_V_X10_151_X10_wrongAt (n := 2) rfl (by decide +kernel) rfl ⟨rfl, rfl, Nat.le_of_ble_eq_true rfl, Nat.le_of_ble_eq_true rfl⟩ hPD hS 0 10 rfl rfl rfl [0, 1, 2, 3, 4, 5, 6, 7, 8, 9, 10, 11, 12, 13, 14, 15, 16, 17, 18, 19, 20, 21, 22, 23, 24, 25, 26, 27, 28, 29, 30, 31, 32, 33] [] [0, 1, 2, 3, 4, 5, 6, 7, 8, 9, 10, 11, 12, 13, 14, 15, 16, 17, 18, 19, 20, 21, 22, 23, 24, 25, 26, 27, 28, 29, 30, 31, 32, 33] (wN := (wX10 G h0 a0 q_24.2 A0)) rfl rfl rfl rfl rfl hl.1 (Nat.le_of_ble_eq_true rfl) dX10_readsCondition_15 (fun H locs hPD hS => ?_)
    obtain ⟨hz, h⟩ := ob h
    obtain rfl := Option.some.inj h
    exact eZ C0 hPD.1 hPD.2 hS rfl (nbool (Classical.not_not.mp hz)) dX10_readsCondition_18
abbrev rmX10_readsRule : Room := { frames := 7, cells := 0, slots := 0, locals := 145 }
set_option maxRecDepth 100000 in
set_option maxHeartbeats 4000000 in
theorem ww_f10_readsRule_b110  (C0 : Cx cX10_readsRule 2 (some .boolean) RX10 p s m args meth c G DA) {h0 : Nat} {a0 : Nat → Nat}   {res : Int32 × (Nat → Nat → Int32) × (Nat → Int32)}  : ∀ (A0 : Nat → Nat → Int32) (f0 : Nat → Int32), f10_readsRule_b110   A0 f0 = some res → ∀ (H : Heap) (locs : List Loc) (ls : Array Slot), WD G DA (wX10 G h0 a0 f0 A0) H → va_S DA s.heap H locs → lv_has ls 2 [(0, .ref h0)] → W p l e rmX10_readsRule s m args below meth c H locs 0 0 (MQ below (QI G DA res.1 (wX10 G h0 a0 res.2.2 res.2.1)) args s 0 0 DA) (F0 m 110 ls []) := by
  obtain ⟨hx, hb, hml, hown, hts⟩ := C0.1
  have hK := C0.2.2.2.1
  intro A0 f0 h _ _ _ hPD hS hl
  unfold f10_readsRule_b110 at h
  refine lv_aload_n hx hb dX10_readsRule_110 rfl (lv_at hl 0 rfl) ?_
  refine va_get (D := G.1) (ci := 10) (v := .ref (a0 22)) (C := RX10) (T := TX10) (N := 52) hx hb hts inlX10 hown hK hPD.1 0 rfl rfl 22 (by decide) (hts _ gw_633) (fun _ h9 => h9) rfl dX10_readsRule_111 ?_
  refine lv_aload_n hx hb dX10_readsRule_114 rfl (lv_at hl 0 rfl) ?_
  refine va_get (D := G.1) (ci := 10) (v := .int (f0 16)) (C := RX10) (T := TX10) (N := 52) hx hb hts inlX10 hown hK hPD.1 0 rfl rfl 16 (by decide) (hts _ gw_630) (fun _ h9 => h9) rfl dX10_readsRule_115 ?_
  refine lv_aload_n hx hb dX10_readsRule_118 rfl (lv_at hl 0 rfl) ?_
  refine va_get (D := G.1) (ci := 10) (v := .int (f0 14)) (C := RX10) (T := TX10) (N := 52) hx hb hts inlX10 hown hK hPD.1 0 rfl rfl 14 (by decide) (hts _ gw_571) (fun _ h9 => h9) rfl dX10_readsRule_119 ?_
  obtain ⟨hi_9, h⟩ := ob h
  refine va_iast hx hb hK hPD.1 hPD.2 hS 12 1 rfl rfl hi_9 dX10_readsRule_122 (fun H locs hP hD hS => ?_)
  obtain ⟨A0_10, eA0_10, h⟩ := lvl h
  have hPD : WD G DA (wX10 G h0 a0 f0 A0_10) H := by rw [eA0_10]; exact ⟨hP, hD⟩
  clear eA0_10 hP hD
  refine lv_aload_n hx hb dX10_readsRule_123 rfl (lv_at hl 0 rfl) ?_
  obtain ⟨q_11, hq_11, h⟩ := ob2 h
  refine kVI (As := []) (rest := []) C0 (kt_X10_readsCondition l G h0 a0 f0 A0_10 hq_11) gi_V_X10_218_X10_readsCondition (n := 0) rfl (by decide +kernel) rfl ⟨rfl, rfl, Nat.le_of_ble_eq_true rfl, Nat.le_of_ble_eq_true rfl⟩ hPD hS 0 10 rfl rfl rfl [0, 1, 2, 3, 4, 5, 6, 7, 8, 9, 10, 11, 12, 13, 14, 15, 16, 17, 18, 19, 20, 21, 22, 23, 24, 25, 26, 27, 28, 29, 30, 31, 32, 33] [] [0, 1, 2, 3, 4, 5, 6, 7, 8, 9, 10, 11, 12, 13, 14, 15, 16, 17, 18, 19, 20, 21, 22, 23, 24, 25, 26, 27, 28, 29, 30, 31, 32, 33] (wN := (wX10 G h0 a0 q_11.2.2 q_11.2.1)) rfl rfl rfl rfl rfl hl.1 (Nat.le_of_ble_eq_true rfl) dX10_readsRule_124 (fun H locs hPD hS => ?_)
  refine lv_if_ne (tgt := 132) hx hb dX10_readsRule_127 (by decide) (fun cc1 => ?_) (fun cc1 => ?_)
  · have h := (if_neg cc1).symm.trans h
    refine lv_aload_n hx hb dX10_readsRule_132 rfl (lv_at hl 0 rfl) ?_
    refine va_get (D := G.1) (ci := 10) (v := .ref (a0 23)) (C := RX10) (T := TX10) (N := 52) hx hb hts inlX10 hown hK hPD.1 0 rfl rfl 23 (by decide) (hts _ gw_638) (fun _ h9 => h9) rfl dX10_readsRule_133 ?_
    refine lv_aload_n hx hb dX10_readsRule_136 rfl (lv_at hl 0 rfl) ?_
    refine va_get (D := G.1) (ci := 10) (v := .int (q_11.2.2 16)) (C := RX10) (T := TX10) (N := 52) hx hb hts inlX10 hown hK hPD.1 0 rfl rfl 16 (by decide) (hts _ gw_630) (fun _ h9 => h9) rfl dX10_readsRule_137 ?_
    refine lv_aload_n hx hb dX10_readsRule_140 rfl (lv_at hl 0 rfl) ?_
    refine va_get (D := G.1) (ci := 10) (v := .int (q_11.2.2 14)) (C := RX10) (T := TX10) (N := 52) hx hb hts inlX10 hown hK hPD.1 0 rfl rfl 14 (by decide) (hts _ gw_571) (fun _ h9 => h9) rfl dX10_readsRule_141 ?_
    obtain ⟨hi_12, h⟩ := ob h
    refine va_iast hx hb hK hPD.1 hPD.2 hS 13 1 rfl rfl hi_12 dX10_readsRule_144 (fun H locs hP hD hS => ?_)
    obtain ⟨A0_13, eA0_13, h⟩ := lvl h
    have hPD : WD G DA (wX10 G h0 a0 q_11.2.2 A0_13) H := by rw [eA0_13]; exact ⟨hP, hD⟩
    clear eA0_13 hP hD
    refine lv_aload_n hx hb dX10_readsRule_145 rfl (lv_at hl 0 rfl) ?_
    refine lv_aload_n hx hb dX10_readsRule_146 rfl (lv_at hl 0 rfl) ?_
    refine va_get (D := G.1) (ci := 10) (v := .int (q_11.2.2 16)) (C := RX10) (T := TX10) (N := 52) hx hb hts inlX10 hown hK hPD.1 0 rfl rfl 16 (by decide) (hts _ gw_630) (fun _ h9 => h9) rfl dX10_readsRule_147 ?_
    refine lv_iconst (v := 1) hx hb dX10_readsRule_150 (by decide) ?_
    refine lv_iadd hx hb dX10_readsRule_151 ?_
    refine va_put (D := G.1) (ci := 10) (v := .int ((q_11.2.2 16) + 1)) (ty := .int) (C := RX10) (T := TX10) (N := 52) hx hb hts inlX10 tyX10 tyX10_ok nmX10 hown hK hPD.1 hPD.2 hS 0 rfl rfl 16 (by decide) (hts _ gw_630) (fun _ h9 => h9) rfl (by decide +kernel) rfl rfl (Nat.le_of_ble_eq_true rfl) dX10_readsRule_152 (fun H locs hP hD hS => ?_)
    obtain ⟨f0_14, ef0_14, h⟩ := lvl h
    have hPD : WD G DA (wX10 G h0 a0 f0_14 A0_13) H := by rw [ef0_14]; exact ⟨hP, hD⟩
    clear ef0_14 hP hD
    refine lv_iconst (v := 1) hx hb dX10_readsRule_155 (by decide) ?_
    obtain rfl := Option.some.inj h
    exact eZ C0 hPD.1 hPD.2 hS rfl rfl dX10_readsRule_156
  · have h := (if_pos cc1).symm.trans h
    refine lv_iconst (v := 0) hx hb dX10_readsRule_130 (by decide) ?_
    obtain rfl := Option.some.inj h
    exact eZ C0 hPD.1 hPD.2 hS rfl rfl dX10_readsRule_131
set_option maxRecDepth 100000 in
set_option maxHeartbeats 4000000 in
theorem ww_f10_readsRule_b33  (C0 : Cx cX10_readsRule 2 (some .boolean) RX10 p s m args meth c G DA) {h0 : Nat} {a0 : Nat → Nat}   {res : Int32 × (Nat → Nat → Int32) × (Nat → Int32)}  : ∀ (A0 : Nat → Nat → Int32) (f0 : Nat → Int32) (l1 : Int32), f10_readsRule_b33   A0 f0 l1 = some res → ∀ (H : Heap) (locs : List Loc) (ls : Array Slot), WD G DA (wX10 G h0 a0 f0 A0) H → va_S DA s.heap H locs → lv_has ls 2 [(0, .ref h0), (1, .int l1)] → W p l e rmX10_readsRule s m args below meth c H locs 0 0 (MQ below (QI G DA res.1 (wX10 G h0 a0 res.2.2 res.2.1)) args s 0 0 DA) (F0 m 33 ls []) := by
  obtain ⟨hx, hb, hml, hown, hts⟩ := C0.1
  have hK := C0.2.2.2.1
  intro A0 f0 l1 h _ _ _ hPD hS hl
  unfold f10_readsRule_b33 at h
  refine lv_aload_n hx hb dX10_readsRule_33 rfl (lv_at hl 0 rfl) ?_
  refine va_get (D := G.1) (ci := 10) (v := .int (f0 16)) (C := RX10) (T := TX10) (N := 52) hx hb hts inlX10 hown hK hPD.1 0 rfl rfl 16 (by decide) (hts _ gw_630) (fun _ h9 => h9) rfl dX10_readsRule_34 ?_
  refine lv_bipush (v := 16) hx hb dX10_readsRule_37 (by decide) ?_
  refine lv_icmp_ne (tgt := 52) hx hb dX10_readsRule_39 (by decide) (fun cc1 => ?_) (fun cc1 => ?_)
  · have h := (if_neg cc1).symm.trans h
    refine lv_aload_n hx hb dX10_readsRule_52 rfl (lv_at hl 0 rfl) ?_
    refine va_get (D := G.1) (ci := 10) (v := .ref (a0 20)) (C := RX10) (T := TX10) (N := 52) hx hb hts inlX10 hown hK hPD.1 0 rfl rfl 20 (by decide) (hts _ gw_631) (fun _ h9 => h9) rfl dX10_readsRule_53 ?_
    refine lv_aload_n hx hb dX10_readsRule_56 rfl (lv_at hl 0 rfl) ?_
    refine va_get (D := G.1) (ci := 10) (v := .int (f0 16)) (C := RX10) (T := TX10) (N := 52) hx hb hts inlX10 hown hK hPD.1 0 rfl rfl 16 (by decide) (hts _ gw_630) (fun _ h9 => h9) rfl dX10_readsRule_57 ?_
    refine lv_iload_n hx hb dX10_readsRule_60 rfl (lv_at hl 1 rfl) ?_
    obtain ⟨hi_2, h⟩ := ob h
    refine va_iast hx hb hK hPD.1 hPD.2 hS 10 1 rfl rfl hi_2 dX10_readsRule_61 (fun H locs hP hD hS => ?_)
    obtain ⟨A0_3, eA0_3, h⟩ := lvl h
    have hPD : WD G DA (wX10 G h0 a0 f0 A0_3) H := by rw [eA0_3]; exact ⟨hP, hD⟩
    clear eA0_3 hP hD
    refine lv_aload_n hx hb dX10_readsRule_62 rfl (lv_at hl 0 rfl) ?_
    refine lv_aload_n hx hb dX10_readsRule_63 rfl (lv_at hl 0 rfl) ?_
    refine va_get (D := G.1) (ci := 10) (v := .int (f0 9)) (C := RX10) (T := TX10) (N := 52) hx hb hts inlX10 hown hK hPD.1 0 rfl rfl 9 (by decide) (hts _ gw_554) (fun _ h9 => h9) rfl dX10_readsRule_64 ?_
    refine lv_iconst (v := 1) hx hb dX10_readsRule_67 (by decide) ?_
    refine lv_iadd hx hb dX10_readsRule_68 ?_
    refine va_put (D := G.1) (ci := 10) (v := .int ((f0 9) + 1)) (ty := .int) (C := RX10) (T := TX10) (N := 52) hx hb hts inlX10 tyX10 tyX10_ok nmX10 hown hK hPD.1 hPD.2 hS 0 rfl rfl 9 (by decide) (hts _ gw_554) (fun _ h9 => h9) rfl (by decide +kernel) rfl rfl (Nat.le_of_ble_eq_true rfl) dX10_readsRule_69 (fun H locs hP hD hS => ?_)
    obtain ⟨f0_4, ef0_4, h⟩ := lvl h
    have hPD : WD G DA (wX10 G h0 a0 f0_4 A0_3) H := by rw [ef0_4]; exact ⟨hP, hD⟩
    clear ef0_4 hP hD
    refine lv_aload_n hx hb dX10_readsRule_72 rfl (lv_at hl 0 rfl) ?_
    refine va_get (D := G.1) (ci := 10) (v := .ref (a0 21)) (C := RX10) (T := TX10) (N := 52) hx hb hts inlX10 hown hK hPD.1 0 rfl rfl 21 (by decide) (hts _ gw_632) (fun _ h9 => h9) rfl dX10_readsRule_73 ?_
    refine lv_aload_n hx hb dX10_readsRule_76 rfl (lv_at hl 0 rfl) ?_
    refine va_get (D := G.1) (ci := 10) (v := .int (f0_4 16)) (C := RX10) (T := TX10) (N := 52) hx hb hts inlX10 hown hK hPD.1 0 rfl rfl 16 (by decide) (hts _ gw_630) (fun _ h9 => h9) rfl dX10_readsRule_77 ?_
    refine lv_aload_n hx hb dX10_readsRule_80 rfl (lv_at hl 0 rfl) ?_
    refine va_get (D := G.1) (ci := 10) (v := .int (f0_4 14)) (C := RX10) (T := TX10) (N := 52) hx hb hts inlX10 hown hK hPD.1 0 rfl rfl 14 (by decide) (hts _ gw_571) (fun _ h9 => h9) rfl dX10_readsRule_81 ?_
    obtain ⟨hi_5, h⟩ := ob h
    refine va_iast hx hb hK hPD.1 hPD.2 hS 11 1 rfl rfl hi_5 dX10_readsRule_84 (fun H locs hP hD hS => ?_)
    obtain ⟨A0_6, eA0_6, h⟩ := lvl h
    have hPD : WD G DA (wX10 G h0 a0 f0_4 A0_6) H := by rw [eA0_6]; exact ⟨hP, hD⟩
    clear eA0_6 hP hD
    refine lv_aload_n hx hb dX10_readsRule_85 rfl (lv_at hl 0 rfl) ?_
    refine lv_iconst (v := 0) hx hb dX10_readsRule_86 (by decide) ?_
    refine va_put (D := G.1) (ci := 10) (v := .int 0) (ty := .int) (C := RX10) (T := TX10) (N := 52) hx hb hts inlX10 tyX10 tyX10_ok nmX10 hown hK hPD.1 hPD.2 hS 0 rfl rfl 13 (by decide) (hts _ gw_573) (fun _ h9 => h9) rfl (by decide +kernel) rfl rfl (Nat.le_of_ble_eq_true rfl) dX10_readsRule_87 (fun H locs hP hD hS => ?_)
    obtain ⟨f0_7, ef0_7, h⟩ := lvl h
    have hPD : WD G DA (wX10 G h0 a0 f0_7 A0_6) H := by rw [ef0_7]; exact ⟨hP, hD⟩
    clear ef0_7 hP hD
    refine lv_aload_n hx hb dX10_readsRule_90 rfl (lv_at hl 0 rfl) ?_
    refine lv_iconst (v := 0) hx hb dX10_readsRule_91 (by decide) ?_
    refine va_put (D := G.1) (ci := 10) (v := .int 0) (ty := .int) (C := RX10) (T := TX10) (N := 52) hx hb hts inlX10 tyX10 tyX10_ok nmX10 hown hK hPD.1 hPD.2 hS 0 rfl rfl 15 (by decide) (hts _ gw_575) (fun _ h9 => h9) rfl (by decide +kernel) rfl rfl (Nat.le_of_ble_eq_true rfl) dX10_readsRule_92 (fun H locs hP hD hS => ?_)
    obtain ⟨f0_8, ef0_8, h⟩ := lvl h
    have hPD : WD G DA (wX10 G h0 a0 f0_8 A0_6) H := by rw [ef0_8]; exact ⟨hP, hD⟩
    clear ef0_8 hP hD
    refine lv_iload_n hx hb dX10_readsRule_95 rfl (lv_at hl 1 rfl) ?_
    refine lv_bipush (v := 115) hx hb dX10_readsRule_96 (by decide) ?_
    refine lv_icmp_eq (tgt := 110) hx hb dX10_readsRule_98 (by decide) (fun cc1 => ?_) (fun cc1 => ?_)
    · have h := (if_pos cc1).symm.trans h
      exact ww_f10_readsRule_b110 C0 A0_6 f0_8 h _ _ _ hPD hS (lv_sub hl [0] rfl)
    · have h := (if_neg cc1).symm.trans h
      refine lv_aload_n hx hb dX10_readsRule_101 rfl (lv_at hl 0 rfl) ?_
      obtain ⟨q_15, hq_15, h⟩ := ob2 h
      refine kVI (As := []) (rest := []) C0 (kt_X10_readsSum l G h0 a0 f0_8 A0_6 hq_15) gi_V_X10_200_X10_readsSum (n := 0) rfl (by decide +kernel) rfl ⟨rfl, rfl, Nat.le_of_ble_eq_true rfl, Nat.le_of_ble_eq_true rfl⟩ hPD hS 0 10 rfl rfl rfl [0, 1, 2, 3, 4, 5, 6, 7, 8, 9, 10, 11, 12, 13, 14, 15, 16, 17, 18, 19, 20, 21, 22, 23, 24, 25, 26, 27, 28, 29, 30, 31, 32, 33] [] [0, 1, 2, 3, 4, 5, 6, 7, 8, 9, 10, 11, 12, 13, 14, 15, 16, 17, 18, 19, 20, 21, 22, 23, 24, 25, 26, 27, 28, 29, 30, 31, 32, 33] (wN := (wX10 G h0 a0 q_15.2.2 q_15.2.1)) rfl rfl rfl rfl rfl hl.1 (Nat.le_of_ble_eq_true rfl) dX10_readsRule_102 (fun H locs hPD hS => ?_)
      refine lv_if_ne (tgt := 110) hx hb dX10_readsRule_105 (by decide) (fun cc1 => ?_) (fun cc1 => ?_)
      · have h := (if_neg cc1).symm.trans h
        exact ww_f10_readsRule_b110 C0 q_15.2.1 q_15.2.2 h _ _ _ hPD hS (lv_sub hl [0] rfl)
      · have h := (if_pos cc1).symm.trans h
        refine lv_iconst (v := 0) hx hb dX10_readsRule_108 (by decide) ?_
        obtain rfl := Option.some.inj h
        exact eZ C0 hPD.1 hPD.2 hS rfl rfl dX10_readsRule_109
  · have h := (if_pos cc1).symm.trans h
    refine lv_aload_n hx hb dX10_readsRule_42 rfl (lv_at hl 0 rfl) ?_
    refine lv_iconst (v := 4) hx hb dX10_readsRule_43 (by decide) ?_
    refine lv_aload_n hx hb dX10_readsRule_44 rfl (lv_at hl 0 rfl) ?_
    refine va_get (D := G.1) (ci := 10) (v := .int (f0 9)) (C := RX10) (T := TX10) (N := 52) hx hb hts inlX10 hown hK hPD.1 0 rfl rfl 9 (by decide) (hts _ gw_554) (fun _ h9 => h9) rfl dX10_readsRule_45 ?_
    obtain ⟨q_16, hq_16, h⟩ := ob2 h
    refine kVI (As := [.int 4, .int (f0 9)]) (rest := []) C0 (kt_X10_wrongAt l G h0 a0 f0 A0 4 (f0 9) hq_16) gi_V_X10_151_X10_wrongAt (n := 2) rfl (by decide +kernel) rfl ⟨rfl, rfl, Nat.le_of_ble_eq_true rfl, Nat.le_of_ble_eq_true rfl⟩ hPD hS 0 10 rfl rfl rfl [0, 1, 2, 3, 4, 5, 6, 7, 8, 9, 10, 11, 12, 13, 14, 15, 16, 17, 18, 19, 20, 21, 22, 23, 24, 25, 26, 27, 28, 29, 30, 31, 32, 33] [] [0, 1, 2, 3, 4, 5, 6, 7, 8, 9, 10, 11, 12, 13, 14, 15, 16, 17, 18, 19, 20, 21, 22, 23, 24, 25, 26, 27, 28, 29, 30, 31, 32, 33] (wN := (wX10 G h0 a0 q_16.2 A0)) rfl rfl rfl rfl rfl hl.1 (Nat.le_of_ble_eq_true rfl) dX10_readsRule_48 (fun H locs hPD hS => ?_)
    obtain ⟨hz, h⟩ := ob h
    obtain rfl := Option.some.inj h
    exact eZ C0 hPD.1 hPD.2 hS rfl (nbool (Classical.not_not.mp hz)) dX10_readsRule_51
set_option maxRecDepth 100000 in
set_option maxHeartbeats 4000000 in
theorem kt_X10_readsRule (l : Launch) (G : Gp) (h0 : Nat) (a0 : Nat → Nat) (f0 : Nat → Int32) (A0 : Nat → Nat → Int32) : ∀ {r : Int32 × (Nat → Nat → Int32) × (Nat → Int32)}, f10_readsRule f0 A0 = some r → CtrI l yX10_readsRule cX10_readsRule 2 (some .boolean) rmX10_readsRule G [.ref h0] (wX10 G h0 a0 f0 A0) r.1 (wX10 G h0 a0 r.2.2 r.2.1) := by
  intro res h
  refine ctrI_of (cc := cX10_readsRule) (maxL := 2) (ret := (some .boolean)) (by decide +kernel) rfl (Nat.le_of_ble_eq_true rfl) (fun p e s m below meth c DA C0 hP hD ls hl => ?_)
  have hPD : WD G DA (wX10 G h0 a0 f0 A0) s.heap := ⟨hP, hD⟩
  have hS : va_S DA s.heap s.heap [] := va_S.rf
  have hl : lv_has ls 2 [(0, .ref h0)] := hl
  obtain ⟨hx, hb, hml, hown, hts⟩ := C0.1
  have hK := C0.2.2.2.1
  unfold f10_readsRule at h
  refine lv_aload_n hx hb dX10_readsRule_0 rfl (lv_at hl 0 rfl) ?_
  obtain ⟨q_1, hq_1, h⟩ := ob2 h
  refine kVI (As := []) (rest := []) C0 (kt_X10_here l G h0 a0 f0 A0 hq_1) gi_V_X10_144_X10_here (n := 0) rfl (by decide +kernel) rfl ⟨rfl, rfl, Nat.le_of_ble_eq_true rfl, Nat.le_of_ble_eq_true rfl⟩ hPD hS 0 10 rfl rfl rfl [0, 1, 2, 3, 4, 5, 6, 7, 8, 9, 10, 11, 12, 13, 14, 15, 16, 17, 18, 19, 20, 21, 22, 23, 24, 25, 26, 27, 28, 29, 30, 31, 32, 33] [] [0, 1, 2, 3, 4, 5, 6, 7, 8, 9, 10, 11, 12, 13, 14, 15, 16, 17, 18, 19, 20, 21, 22, 23, 24, 25, 26, 27, 28, 29, 30, 31, 32, 33] (wN := (wX10 G h0 a0 f0 A0)) rfl rfl rfl rfl rfl hl.1 (Nat.le_of_ble_eq_true rfl) dX10_readsRule_1 (fun H locs hPD hS => ?_)
  refine lv_istore_n (lv' := [(1, .int q_1), (0, .ref h0)]) hx hb dX10_readsRule_4 rfl hl (by decide) rfl (fun ls hl => ?_)
  refine lv_iload_n hx hb dX10_readsRule_5 rfl (lv_at hl 0 rfl) ?_
  refine lv_bipush (v := 119) hx hb dX10_readsRule_6 (by decide) ?_
  refine lv_icmp_eq (tgt := 33) hx hb dX10_readsRule_8 (by decide) (fun cc1 => ?_) (fun cc1 => ?_)
  · have h := (if_pos cc1).symm.trans h
    exact ww_f10_readsRule_b33 C0 A0 f0 q_1 h _ _ _ hPD hS (lv_sub hl [1, 0] rfl)
  · have h := (if_neg cc1).symm.trans h
    refine lv_iload_n hx hb dX10_readsRule_11 rfl (lv_at hl 0 rfl) ?_
    refine lv_bipush (v := 114) hx hb dX10_readsRule_12 (by decide) ?_
    refine lv_icmp_eq (tgt := 33) hx hb dX10_readsRule_14 (by decide) (fun cc1 => ?_) (fun cc1 => ?_)
    · have h := (if_pos cc1).symm.trans h
      exact ww_f10_readsRule_b33 C0 A0 f0 q_1 h _ _ _ hPD hS (lv_sub hl [1, 0] rfl)
    · have h := (if_neg cc1).symm.trans h
      refine lv_iload_n hx hb dX10_readsRule_17 rfl (lv_at hl 0 rfl) ?_
      refine lv_bipush (v := 115) hx hb dX10_readsRule_18 (by decide) ?_
      refine lv_icmp_eq (tgt := 33) hx hb dX10_readsRule_20 (by decide) (fun cc1 => ?_) (fun cc1 => ?_)
      · have h := (if_pos cc1).symm.trans h
        exact ww_f10_readsRule_b33 C0 A0 f0 q_1 h _ _ _ hPD hS (lv_sub hl [1, 0] rfl)
      · have h := (if_neg cc1).symm.trans h
        refine lv_aload_n hx hb dX10_readsRule_23 rfl (lv_at hl 1 rfl) ?_
        refine lv_iconst (v := 1) hx hb dX10_readsRule_24 (by decide) ?_
        refine lv_aload_n hx hb dX10_readsRule_25 rfl (lv_at hl 1 rfl) ?_
        refine va_get (D := G.1) (ci := 10) (v := .int (f0 9)) (C := RX10) (T := TX10) (N := 52) hx hb hts inlX10 hown hK hPD.1 0 rfl rfl 9 (by decide) (hts _ gw_554) (fun _ h9 => h9) rfl dX10_readsRule_26 ?_
        obtain ⟨q_17, hq_17, h⟩ := ob2 h
        refine kVI (As := [.int 1, .int (f0 9)]) (rest := []) C0 (kt_X10_wrongAt l G h0 a0 f0 A0 1 (f0 9) hq_17) gi_V_X10_151_X10_wrongAt (n := 2) rfl (by decide +kernel) rfl ⟨rfl, rfl, Nat.le_of_ble_eq_true rfl, Nat.le_of_ble_eq_true rfl⟩ hPD hS 0 10 rfl rfl rfl [0, 1, 2, 3, 4, 5, 6, 7, 8, 9, 10, 11, 12, 13, 14, 15, 16, 17, 18, 19, 20, 21, 22, 23, 24, 25, 26, 27, 28, 29, 30, 31, 32, 33] [] [0, 1, 2, 3, 4, 5, 6, 7, 8, 9, 10, 11, 12, 13, 14, 15, 16, 17, 18, 19, 20, 21, 22, 23, 24, 25, 26, 27, 28, 29, 30, 31, 32, 33] (wN := (wX10 G h0 a0 q_17.2 A0)) rfl rfl rfl rfl rfl hl.1 (Nat.le_of_ble_eq_true rfl) dX10_readsRule_29 (fun H locs hPD hS => ?_)
        obtain ⟨hz, h⟩ := ob h
        obtain rfl := Option.some.inj h
        exact eZ C0 hPD.1 hPD.2 hS rfl (nbool (Classical.not_not.mp hz)) dX10_readsRule_32
abbrev rmX10_beginsText : Room := { frames := 0, cells := 0, slots := 0, locals := 0 }
set_option maxRecDepth 100000 in
set_option maxHeartbeats 4000000 in
theorem kt_X10_beginsText (l : Launch) (G : Gp) (h0 : Nat) (a0 : Nat → Nat) (f0 : Nat → Int32) (A0 : Nat → Nat → Int32) (p1 : Int32) : CtrV l yX10_beginsText cX10_beginsText 2 none rmX10_beginsText G [.ref h0, .int p1] (wX10 G h0 a0 f0 A0) (wX10 G h0 a0 (f10_beginsText f0 A0 p1) A0) := by
  obtain ⟨res, h⟩ : ∃ res, f10_beginsText f0 A0 p1 = res := ⟨_, rfl⟩
  rw [h]
  refine ctrV_of (cc := cX10_beginsText) (maxL := 2) (ret := none) (by decide +kernel) rfl (Nat.le_of_ble_eq_true rfl) (fun p e s m below meth c DA C0 hP hD ls hl => ?_)
  have hPD : WD G DA (wX10 G h0 a0 f0 A0) s.heap := ⟨hP, hD⟩
  have hS : va_S DA s.heap s.heap [] := va_S.rf
  have hl : lv_has ls 2 [(0, .ref h0), (1, .int p1)] := hl
  obtain ⟨hx, hb, hml, hown, hts⟩ := C0.1
  have hK := C0.2.2.2.1
  unfold f10_beginsText at h
  refine lv_aload_n hx hb dX10_beginsText_0 rfl (lv_at hl 0 rfl) ?_
  refine lv_iconst (v := 0) hx hb dX10_beginsText_1 (by decide) ?_
  refine va_put (D := G.1) (ci := 10) (v := .int 0) (ty := .int) (C := RX10) (T := TX10) (N := 52) hx hb hts inlX10 tyX10 tyX10_ok nmX10 hown hK hPD.1 hPD.2 hS 0 rfl rfl 9 (by decide) (hts _ gw_554) (fun _ h9 => h9) rfl (by decide +kernel) rfl rfl (Nat.le_of_ble_eq_true rfl) dX10_beginsText_2 (fun H locs hP hD hS => ?_)
  obtain ⟨f0_1, ef0_1, h⟩ := lvl h
  have hPD : WD G DA (wX10 G h0 a0 f0_1 A0) H := by rw [ef0_1]; exact ⟨hP, hD⟩
  clear ef0_1 hP hD
  refine lv_aload_n hx hb dX10_beginsText_5 rfl (lv_at hl 0 rfl) ?_
  refine lv_iload_n hx hb dX10_beginsText_6 rfl (lv_at hl 1 rfl) ?_
  refine va_put (D := G.1) (ci := 10) (v := .int p1) (ty := .int) (C := RX10) (T := TX10) (N := 52) hx hb hts inlX10 tyX10 tyX10_ok nmX10 hown hK hPD.1 hPD.2 hS 0 rfl rfl 10 (by decide) (hts _ gw_555) (fun _ h9 => h9) rfl (by decide +kernel) rfl rfl (Nat.le_of_ble_eq_true rfl) dX10_beginsText_7 (fun H locs hP hD hS => ?_)
  obtain ⟨f0_2, ef0_2, h⟩ := lvl h
  have hPD : WD G DA (wX10 G h0 a0 f0_2 A0) H := by rw [ef0_2]; exact ⟨hP, hD⟩
  clear ef0_2 hP hD
  refine lv_aload_n hx hb dX10_beginsText_10 rfl (lv_at hl 0 rfl) ?_
  refine lv_iconst (v := 0) hx hb dX10_beginsText_11 (by decide) ?_
  refine va_put (D := G.1) (ci := 10) (v := .int 0) (ty := .int) (C := RX10) (T := TX10) (N := 52) hx hb hts inlX10 tyX10 tyX10_ok nmX10 hown hK hPD.1 hPD.2 hS 0 rfl rfl 14 (by decide) (hts _ gw_571) (fun _ h9 => h9) rfl (by decide +kernel) rfl rfl (Nat.le_of_ble_eq_true rfl) dX10_beginsText_12 (fun H locs hP hD hS => ?_)
  obtain ⟨f0_3, ef0_3, h⟩ := lvl h
  have hPD : WD G DA (wX10 G h0 a0 f0_3 A0) H := by rw [ef0_3]; exact ⟨hP, hD⟩
  clear ef0_3 hP hD
  refine lv_aload_n hx hb dX10_beginsText_15 rfl (lv_at hl 0 rfl) ?_
  refine lv_iconst (v := 0) hx hb dX10_beginsText_16 (by decide) ?_
  refine va_put (D := G.1) (ci := 10) (v := .int 0) (ty := .int) (C := RX10) (T := TX10) (N := 52) hx hb hts inlX10 tyX10 tyX10_ok nmX10 hown hK hPD.1 hPD.2 hS 0 rfl rfl 16 (by decide) (hts _ gw_630) (fun _ h9 => h9) rfl (by decide +kernel) rfl rfl (Nat.le_of_ble_eq_true rfl) dX10_beginsText_17 (fun H locs hP hD hS => ?_)
  obtain ⟨f0_4, ef0_4, h⟩ := lvl h
  have hPD : WD G DA (wX10 G h0 a0 f0_4 A0) H := by rw [ef0_4]; exact ⟨hP, hD⟩
  clear ef0_4 hP hD
  subst h
  exact eV C0 hPD.1 hPD.2 hS dX10_beginsText_20
abbrev rmX10_law : Room := { frames := 8, cells := 0, slots := 0, locals := 166 }
set_option maxRecDepth 100000 in
set_option maxHeartbeats 4000000 in
theorem ww_f10_law_b123  (C0 : Cx cX10_law 4 (some .int) RX10 p s m args meth c G DA) {h0 : Nat} {a0 : Nat → Nat} {p1 : Int32}  {k123 : (Nat → Nat → Int32) → (Nat → Int32) → Int32 → Option (Int32 × (Nat → Nat → Int32) × (Nat → Int32))} {res : Int32 × (Nat → Nat → Int32) × (Nat → Int32)}  (hk123 : ∀ (A0 : Nat → Nat → Int32) (f0 : Nat → Int32) (l3 : Int32), k123 A0 f0 l3 = some res → ∀ (H : Heap) (locs : List Loc) (ls : Array Slot), WD G DA (wX10 G h0 a0 f0 A0) H → va_S DA s.heap H locs → lv_has ls 4 [(0, .ref h0), (1, .int p1), (3, .int l3)] → W p l e rmX10_law s m args below meth c H locs 0 0 (MQ below (QI G DA res.1 (wX10 G h0 a0 res.2.2 res.2.1)) args s 0 0 DA) (F0 m 123 ls [])) : ∀ (A0 : Nat → Nat → Int32) (f0 : Nat → Int32) (l3 : Int32), f10_law_b123 p1  k123 A0 f0 l3 = some res → ∀ (H : Heap) (locs : List Loc) (ls : Array Slot), WD G DA (wX10 G h0 a0 f0 A0) H → va_S DA s.heap H locs → lv_has ls 4 [(0, .ref h0), (1, .int p1), (3, .int l3)] → W p l e rmX10_law s m args below meth c H locs 0 0 (MQ below (QI G DA res.1 (wX10 G h0 a0 res.2.2 res.2.1)) args s 0 0 DA) (F0 m 123 ls []) := by
  obtain ⟨hx, hb, hml, hown, hts⟩ := C0.1
  have hK := C0.2.2.2.1
  intro A0 f0 l3 h _ _ _ hPD hS hl
  unfold f10_law_b123 at h
  refine lv_iload_n hx hb dX10_law_123 rfl (lv_at hl 2 rfl) ?_
  refine lv_aload_n hx hb dX10_law_124 rfl (lv_at hl 0 rfl) ?_
  refine va_get (D := G.1) (ci := 10) (v := .int (f0 16)) (C := RX10) (T := TX10) (N := 52) hx hb hts inlX10 hown hK hPD.1 0 rfl rfl 16 (by decide) (hts _ gw_630) (fun _ h9 => h9) rfl dX10_law_125 ?_
  refine lv_icmp_ge (tgt := 185) hx hb dX10_law_128 (by decide) (fun cc1 => ?_) (fun cc1 => ?_)
  · have h := (if_pos cc1).symm.trans h
    refine lv_aload_n hx hb dX10_law_185 rfl (lv_at hl 0 rfl) ?_
    refine va_get (D := G.1) (ci := 10) (v := .int (f0 16)) (C := RX10) (T := TX10) (N := 52) hx hb hts inlX10 hown hK hPD.1 0 rfl rfl 16 (by decide) (hts _ gw_630) (fun _ h9 => h9) rfl dX10_law_186 ?_
    obtain rfl := Option.some.inj h
    exact eI C0 hPD.1 hPD.2 hS rfl dX10_law_189
  · have h := (if_neg cc1).symm.trans h
    refine lv_aload_n hx hb dX10_law_131 rfl (lv_at hl 0 rfl) ?_
    refine va_get (D := G.1) (ci := 10) (v := .ref (a0 25)) (C := RX10) (T := TX10) (N := 52) hx hb hts inlX10 hown hK hPD.1 0 rfl rfl 25 (by decide) (hts _ gw_648) (fun _ h9 => h9) rfl dX10_law_132 ?_
    refine lv_iload_n hx hb dX10_law_135 rfl (lv_at hl 2 rfl) ?_
    refine lv_aload_n hx hb dX10_law_136 rfl (lv_at hl 0 rfl) ?_
    refine va_get (D := G.1) (ci := 10) (v := .ref (a0 20)) (C := RX10) (T := TX10) (N := 52) hx hb hts inlX10 hown hK hPD.1 0 rfl rfl 20 (by decide) (hts _ gw_631) (fun _ h9 => h9) rfl dX10_law_137 ?_
    refine lv_iload_n hx hb dX10_law_140 rfl (lv_at hl 2 rfl) ?_
    obtain ⟨hi_4, h⟩ := ob h
    refine va_iald hx hb hK hPD.1 10 1 rfl rfl hi_4 dX10_law_141 ?_
    obtain ⟨hi_5, h⟩ := ob h
    refine va_iast hx hb hK hPD.1 hPD.2 hS 15 1 rfl rfl hi_5 dX10_law_142 (fun H locs hP hD hS => ?_)
    obtain ⟨A0_6, eA0_6, h⟩ := lvl h
    have hPD : WD G DA (wX10 G h0 a0 f0 A0_6) H := by rw [eA0_6]; exact ⟨hP, hD⟩
    clear eA0_6 hP hD
    refine lv_aload_n hx hb dX10_law_143 rfl (lv_at hl 0 rfl) ?_
    refine va_get (D := G.1) (ci := 10) (v := .ref (a0 26)) (C := RX10) (T := TX10) (N := 52) hx hb hts inlX10 hown hK hPD.1 0 rfl rfl 26 (by decide) (hts _ gw_649) (fun _ h9 => h9) rfl dX10_law_144 ?_
    refine lv_iload_n hx hb dX10_law_147 rfl (lv_at hl 2 rfl) ?_
    refine lv_aload_n hx hb dX10_law_148 rfl (lv_at hl 0 rfl) ?_
    refine va_get (D := G.1) (ci := 10) (v := .ref (a0 21)) (C := RX10) (T := TX10) (N := 52) hx hb hts inlX10 hown hK hPD.1 0 rfl rfl 21 (by decide) (hts _ gw_632) (fun _ h9 => h9) rfl dX10_law_149 ?_
    refine lv_iload_n hx hb dX10_law_152 rfl (lv_at hl 2 rfl) ?_
    obtain ⟨hi_7, h⟩ := ob h
    refine va_iald hx hb hK hPD.1 11 1 rfl rfl hi_7 dX10_law_153 ?_
    obtain ⟨hi_8, h⟩ := ob h
    refine va_iast hx hb hK hPD.1 hPD.2 hS 16 1 rfl rfl hi_8 dX10_law_154 (fun H locs hP hD hS => ?_)
    obtain ⟨A0_9, eA0_9, h⟩ := lvl h
    have hPD : WD G DA (wX10 G h0 a0 f0 A0_9) H := by rw [eA0_9]; exact ⟨hP, hD⟩
    clear eA0_9 hP hD
    refine lv_aload_n hx hb dX10_law_155 rfl (lv_at hl 0 rfl) ?_
    refine va_get (D := G.1) (ci := 10) (v := .ref (a0 27)) (C := RX10) (T := TX10) (N := 52) hx hb hts inlX10 hown hK hPD.1 0 rfl rfl 27 (by decide) (hts _ gw_650) (fun _ h9 => h9) rfl dX10_law_156 ?_
    refine lv_iload_n hx hb dX10_law_159 rfl (lv_at hl 2 rfl) ?_
    refine lv_aload_n hx hb dX10_law_160 rfl (lv_at hl 0 rfl) ?_
    refine va_get (D := G.1) (ci := 10) (v := .ref (a0 22)) (C := RX10) (T := TX10) (N := 52) hx hb hts inlX10 hown hK hPD.1 0 rfl rfl 22 (by decide) (hts _ gw_633) (fun _ h9 => h9) rfl dX10_law_161 ?_
    refine lv_iload_n hx hb dX10_law_164 rfl (lv_at hl 2 rfl) ?_
    obtain ⟨hi_10, h⟩ := ob h
    refine va_iald hx hb hK hPD.1 12 1 rfl rfl hi_10 dX10_law_165 ?_
    obtain ⟨hi_11, h⟩ := ob h
    refine va_iast hx hb hK hPD.1 hPD.2 hS 17 1 rfl rfl hi_11 dX10_law_166 (fun H locs hP hD hS => ?_)
    obtain ⟨A0_12, eA0_12, h⟩ := lvl h
    have hPD : WD G DA (wX10 G h0 a0 f0 A0_12) H := by rw [eA0_12]; exact ⟨hP, hD⟩
    clear eA0_12 hP hD
    refine lv_aload_n hx hb dX10_law_167 rfl (lv_at hl 0 rfl) ?_
    refine va_get (D := G.1) (ci := 10) (v := .ref (a0 28)) (C := RX10) (T := TX10) (N := 52) hx hb hts inlX10 hown hK hPD.1 0 rfl rfl 28 (by decide) (hts _ gw_651) (fun _ h9 => h9) rfl dX10_law_168 ?_
    refine lv_iload_n hx hb dX10_law_171 rfl (lv_at hl 2 rfl) ?_
    refine lv_aload_n hx hb dX10_law_172 rfl (lv_at hl 0 rfl) ?_
    refine va_get (D := G.1) (ci := 10) (v := .ref (a0 23)) (C := RX10) (T := TX10) (N := 52) hx hb hts inlX10 hown hK hPD.1 0 rfl rfl 23 (by decide) (hts _ gw_638) (fun _ h9 => h9) rfl dX10_law_173 ?_
    refine lv_iload_n hx hb dX10_law_176 rfl (lv_at hl 2 rfl) ?_
    obtain ⟨hi_13, h⟩ := ob h
    refine va_iald hx hb hK hPD.1 13 1 rfl rfl hi_13 dX10_law_177 ?_
    obtain ⟨hi_14, h⟩ := ob h
    refine va_iast hx hb hK hPD.1 hPD.2 hS 18 1 rfl rfl hi_14 dX10_law_178 (fun H locs hP hD hS => ?_)
    obtain ⟨A0_15, eA0_15, h⟩ := lvl h
    have hPD : WD G DA (wX10 G h0 a0 f0 A0_15) H := by rw [eA0_15]; exact ⟨hP, hD⟩
    clear eA0_15 hP hD
    refine lv_iinc (v := l3 + 1) (lv' := [(3, .int (l3 + 1)), (0, .ref h0), (1, .int p1)]) hx hb dX10_law_179 hl (k := 2) rfl rfl (by decide) rfl (fun ls hl => ?_)
    refine lv_goto (tgt := 123) hx hb dX10_law_182 (by decide) ?_
    exact hk123 A0_15 f0 (l3 + 1) h _ _ _ hPD hS (lv_sub hl [1, 2, 0] rfl)
set_option maxRecDepth 100000 in
set_option maxHeartbeats 4000000 in
theorem ww_f10_law_l123  (C0 : Cx cX10_law 4 (some .int) RX10 p s m args meth c G DA) {h0 : Nat} {a0 : Nat → Nat} {p1 : Int32}   {res : Int32 × (Nat → Nat → Int32) × (Nat → Int32)}  : ∀ (n : Nat) (A0 : Nat → Nat → Int32) (f0 : Nat → Int32) (l3 : Int32), f10_law_l123 p1  n A0 f0 l3 = some res → ∀ (H : Heap) (locs : List Loc) (ls : Array Slot), WD G DA (wX10 G h0 a0 f0 A0) H → va_S DA s.heap H locs → lv_has ls 4 [(0, .ref h0), (1, .int p1), (3, .int l3)] → W p l e rmX10_law s m args below meth c H locs 0 0 (MQ below (QI G DA res.1 (wX10 G h0 a0 res.2.2 res.2.1)) args s 0 0 DA) (F0 m 123 ls []) := by
  intro n
  induction n with
  | zero => intro A0 f0 l3 h; cases h
  | succ n ih => intro A0 f0 l3 h; exact ww_f10_law_b123 C0  ih A0 f0 l3 h
set_option maxRecDepth 100000 in
set_option maxHeartbeats 4000000 in
theorem ww_f10_law_b95  (C0 : Cx cX10_law 4 (some .int) RX10 p s m args meth c G DA) {h0 : Nat} {a0 : Nat → Nat} {p1 : Int32}  {k95 : (Nat → Nat → Int32) → (Nat → Int32) → Int32 → Option (Int32 × (Nat → Nat → Int32) × (Nat → Int32))} {res : Int32 × (Nat → Nat → Int32) × (Nat → Int32)}  (hk95 : ∀ (A0 : Nat → Nat → Int32) (f0 : Nat → Int32) (l3 : Int32), k95 A0 f0 l3 = some res → ∀ (H : Heap) (locs : List Loc) (ls : Array Slot), WD G DA (wX10 G h0 a0 f0 A0) H → va_S DA s.heap H locs → lv_has ls 4 [(0, .ref h0), (1, .int p1), (3, .int l3)] → W p l e rmX10_law s m args below meth c H locs 0 0 (MQ below (QI G DA res.1 (wX10 G h0 a0 res.2.2 res.2.1)) args s 0 0 DA) (F0 m 95 ls [])) : ∀ (A0 : Nat → Nat → Int32) (f0 : Nat → Int32) (l3 : Int32), f10_law_b95 p1  k95 A0 f0 l3 = some res → ∀ (H : Heap) (locs : List Loc) (ls : Array Slot), WD G DA (wX10 G h0 a0 f0 A0) H → va_S DA s.heap H locs → lv_has ls 4 [(0, .ref h0), (1, .int p1), (3, .int l3)] → W p l e rmX10_law s m args below meth c H locs 0 0 (MQ below (QI G DA res.1 (wX10 G h0 a0 res.2.2 res.2.1)) args s 0 0 DA) (F0 m 95 ls []) := by
  obtain ⟨hx, hb, hml, hown, hts⟩ := C0.1
  have hK := C0.2.2.2.1
  intro A0 f0 l3 h _ _ _ hPD hS hl
  unfold f10_law_b95 at h
  refine lv_iload_n hx hb dX10_law_95 rfl (lv_at hl 2 rfl) ?_
  refine lv_aload_n hx hb dX10_law_96 rfl (lv_at hl 0 rfl) ?_
  refine va_get (D := G.1) (ci := 10) (v := .int (f0 14)) (C := RX10) (T := TX10) (N := 52) hx hb hts inlX10 hown hK hPD.1 0 rfl rfl 14 (by decide) (hts _ gw_571) (fun _ h9 => h9) rfl dX10_law_97 ?_
  refine lv_icmp_ge (tgt := 121) hx hb dX10_law_100 (by decide) (fun cc1 => ?_) (fun cc1 => ?_)
  · have h := (if_pos cc1).symm.trans h
    refine lv_iconst (v := 0) hx hb dX10_law_121 (by decide) ?_
    refine lv_istore_n (lv' := [(3, .int 0), (0, .ref h0), (1, .int p1)]) hx hb dX10_law_122 rfl hl (by decide) rfl (fun ls hl => ?_)
    exact ww_f10_law_l123 C0 NF A0 f0 0 h _ _ _ hPD hS (lv_sub hl [1, 2, 0] rfl)
  · have h := (if_neg cc1).symm.trans h
    refine lv_aload_n hx hb dX10_law_103 rfl (lv_at hl 0 rfl) ?_
    refine va_get (D := G.1) (ci := 10) (v := .ref (a0 24)) (C := RX10) (T := TX10) (N := 52) hx hb hts inlX10 hown hK hPD.1 0 rfl rfl 24 (by decide) (hts _ gw_652) (fun _ h9 => h9) rfl dX10_law_104 ?_
    refine lv_iload_n hx hb dX10_law_107 rfl (lv_at hl 2 rfl) ?_
    refine lv_aload_n hx hb dX10_law_108 rfl (lv_at hl 0 rfl) ?_
    refine va_get (D := G.1) (ci := 10) (v := .ref (a0 18)) (C := RX10) (T := TX10) (N := 52) hx hb hts inlX10 hown hK hPD.1 0 rfl rfl 18 (by decide) (hts _ gw_570) (fun _ h9 => h9) rfl dX10_law_109 ?_
    refine lv_iload_n hx hb dX10_law_112 rfl (lv_at hl 2 rfl) ?_
    obtain ⟨hi_16, h⟩ := ob h
    refine va_iald hx hb hK hPD.1 8 1 rfl rfl hi_16 dX10_law_113 ?_
    obtain ⟨hi_17, h⟩ := ob h
    refine va_iast hx hb hK hPD.1 hPD.2 hS 14 1 rfl rfl hi_17 dX10_law_114 (fun H locs hP hD hS => ?_)
    obtain ⟨A0_18, eA0_18, h⟩ := lvl h
    have hPD : WD G DA (wX10 G h0 a0 f0 A0_18) H := by rw [eA0_18]; exact ⟨hP, hD⟩
    clear eA0_18 hP hD
    refine lv_iinc (v := l3 + 1) (lv' := [(3, .int (l3 + 1)), (0, .ref h0), (1, .int p1)]) hx hb dX10_law_115 hl (k := 2) rfl rfl (by decide) rfl (fun ls hl => ?_)
    refine lv_goto (tgt := 95) hx hb dX10_law_118 (by decide) ?_
    exact hk95 A0_18 f0 (l3 + 1) h _ _ _ hPD hS (lv_sub hl [1, 2, 0] rfl)
set_option maxRecDepth 100000 in
set_option maxHeartbeats 4000000 in
theorem ww_f10_law_l95  (C0 : Cx cX10_law 4 (some .int) RX10 p s m args meth c G DA) {h0 : Nat} {a0 : Nat → Nat} {p1 : Int32}   {res : Int32 × (Nat → Nat → Int32) × (Nat → Int32)}  : ∀ (n : Nat) (A0 : Nat → Nat → Int32) (f0 : Nat → Int32) (l3 : Int32), f10_law_l95 p1  n A0 f0 l3 = some res → ∀ (H : Heap) (locs : List Loc) (ls : Array Slot), WD G DA (wX10 G h0 a0 f0 A0) H → va_S DA s.heap H locs → lv_has ls 4 [(0, .ref h0), (1, .int p1), (3, .int l3)] → W p l e rmX10_law s m args below meth c H locs 0 0 (MQ below (QI G DA res.1 (wX10 G h0 a0 res.2.2 res.2.1)) args s 0 0 DA) (F0 m 95 ls []) := by
  intro n
  induction n with
  | zero => intro A0 f0 l3 h; cases h
  | succ n ih => intro A0 f0 l3 h; exact ww_f10_law_b95 C0  ih A0 f0 l3 h
set_option maxRecDepth 100000 in
set_option maxHeartbeats 4000000 in
theorem ww_f10_law_b71  (C0 : Cx cX10_law 4 (some .int) RX10 p s m args meth c G DA) {h0 : Nat} {a0 : Nat → Nat} {p1 : Int32}   {res : Int32 × (Nat → Nat → Int32) × (Nat → Int32)}  : ∀ (A0 : Nat → Nat → Int32) (f0 : Nat → Int32) (l2 : Int32), f10_law_b71 p1  A0 f0 l2 = some res → ∀ (H : Heap) (locs : List Loc) (ls : Array Slot), WD G DA (wX10 G h0 a0 f0 A0) H → va_S DA s.heap H locs → lv_has ls 4 [(0, .ref h0), (1, .int p1), (2, .int l2)] → W p l e rmX10_law s m args below meth c H locs 0 0 (MQ below (QI G DA res.1 (wX10 G h0 a0 res.2.2 res.2.1)) args s 0 0 DA) (F0 m 71 ls []) := by
  obtain ⟨hx, hb, hml, hown, hts⟩ := C0.1
  have hK := C0.2.2.2.1
  intro A0 f0 l2 h _ _ _ hPD hS hl
  unfold f10_law_b71 at h
  refine lv_aload_n hx hb dX10_law_71 rfl (lv_at hl 0 rfl) ?_
  refine lv_iconst (v := 0) hx hb dX10_law_72 (by decide) ?_
  refine va_put (D := G.1) (ci := 10) (v := .int 0) (ty := .int) (C := RX10) (T := TX10) (N := 52) hx hb hts inlX10 tyX10 tyX10_ok nmX10 hown hK hPD.1 hPD.2 hS 0 rfl rfl 8 (by decide) (hts _ gw_549) (fun _ h9 => h9) rfl (by decide +kernel) rfl rfl (Nat.le_of_ble_eq_true rfl) dX10_law_73 (fun H locs hP hD hS => ?_)
  obtain ⟨f0_2, ef0_2, h⟩ := lvl h
  have hPD : WD G DA (wX10 G h0 a0 f0_2 A0) H := by rw [ef0_2]; exact ⟨hP, hD⟩
  clear ef0_2 hP hD
  refine lv_iload_n hx hb dX10_law_76 rfl (lv_at hl 2 rfl) ?_
  refine lv_if_ne (tgt := 85) hx hb dX10_law_77 (by decide) (fun cc1 => ?_) (fun cc1 => ?_)
  · have h := (if_neg cc1).symm.trans h
    refine lv_aload_n hx hb dX10_law_85 rfl (lv_at hl 0 rfl) ?_
    refine lv_aload_n hx hb dX10_law_86 rfl (lv_at hl 0 rfl) ?_
    refine va_get (D := G.1) (ci := 10) (v := .int (f0_2 16)) (C := RX10) (T := TX10) (N := 52) hx hb hts inlX10 hown hK hPD.1 0 rfl rfl 16 (by decide) (hts _ gw_630) (fun _ h9 => h9) rfl dX10_law_87 ?_
    refine va_put (D := G.1) (ci := 10) (v := .int (f0_2 16)) (ty := .int) (C := RX10) (T := TX10) (N := 52) hx hb hts inlX10 tyX10 tyX10_ok nmX10 hown hK hPD.1 hPD.2 hS 0 rfl rfl 17 (by decide) (hts _ gw_647) (fun _ h9 => h9) rfl (by decide +kernel) rfl rfl (Nat.le_of_ble_eq_true rfl) dX10_law_90 (fun H locs hP hD hS => ?_)
    obtain ⟨f0_3, ef0_3, h⟩ := lvl h
    have hPD : WD G DA (wX10 G h0 a0 f0_3 A0) H := by rw [ef0_3]; exact ⟨hP, hD⟩
    clear ef0_3 hP hD
    refine lv_iconst (v := 0) hx hb dX10_law_93 (by decide) ?_
    refine lv_istore_n (lv' := [(3, .int 0), (0, .ref h0), (1, .int p1), (2, .int l2)]) hx hb dX10_law_94 rfl hl (by decide) rfl (fun ls hl => ?_)
    exact ww_f10_law_l95 C0 NF A0 f0_3 0 h _ _ _ hPD hS (lv_sub hl [1, 2, 0] rfl)
  · have h := (if_pos cc1).symm.trans h
    refine lv_aload_n hx hb dX10_law_80 rfl (lv_at hl 0 rfl) ?_
    refine va_get (D := G.1) (ci := 10) (v := .int (f0_2 11)) (C := RX10) (T := TX10) (N := 52) hx hb hts inlX10 hown hK hPD.1 0 rfl rfl 11 (by decide) (hts _ gw_560) (fun _ h9 => h9) rfl dX10_law_81 ?_
    obtain rfl := Option.some.inj h
    exact eI C0 hPD.1 hPD.2 hS rfl dX10_law_84
set_option maxRecDepth 100000 in
set_option maxHeartbeats 4000000 in
theorem ww_f10_law_b31  (C0 : Cx cX10_law 4 (some .int) RX10 p s m args meth c G DA) {h0 : Nat} {a0 : Nat → Nat} {p1 : Int32}  {k31 : (Nat → Nat → Int32) → (Nat → Int32) → Int32 → Option (Int32 × (Nat → Nat → Int32) × (Nat → Int32))} {res : Int32 × (Nat → Nat → Int32) × (Nat → Int32)}  (hk31 : ∀ (A0 : Nat → Nat → Int32) (f0 : Nat → Int32) (l2 : Int32), k31 A0 f0 l2 = some res → ∀ (H : Heap) (locs : List Loc) (ls : Array Slot), WD G DA (wX10 G h0 a0 f0 A0) H → va_S DA s.heap H locs → lv_has ls 4 [(0, .ref h0), (1, .int p1), (2, .int l2)] → W p l e rmX10_law s m args below meth c H locs 0 0 (MQ below (QI G DA res.1 (wX10 G h0 a0 res.2.2 res.2.1)) args s 0 0 DA) (F0 m 31 ls [])) : ∀ (A0 : Nat → Nat → Int32) (f0 : Nat → Int32) (l2 : Int32), f10_law_b31 p1  k31 A0 f0 l2 = some res → ∀ (H : Heap) (locs : List Loc) (ls : Array Slot), WD G DA (wX10 G h0 a0 f0 A0) H → va_S DA s.heap H locs → lv_has ls 4 [(0, .ref h0), (1, .int p1), (2, .int l2)] → W p l e rmX10_law s m args below meth c H locs 0 0 (MQ below (QI G DA res.1 (wX10 G h0 a0 res.2.2 res.2.1)) args s 0 0 DA) (F0 m 31 ls []) := by
  obtain ⟨hx, hb, hml, hown, hts⟩ := C0.1
  have hK := C0.2.2.2.1
  intro A0 f0 l2 h _ _ _ hPD hS hl
  unfold f10_law_b31 at h
  refine lv_iload_n hx hb dX10_law_31 rfl (lv_at hl 2 rfl) ?_
  refine lv_if_eq (tgt := 71) hx hb dX10_law_32 (by decide) (fun cc1 => ?_) (fun cc1 => ?_)
  · have h := (if_pos cc1).symm.trans h
    exact ww_f10_law_b71 C0 A0 f0 l2 h _ _ _ hPD hS (lv_sub hl [0, 1, 2] rfl)
  · have h := (if_neg cc1).symm.trans h
    refine lv_aload_n hx hb dX10_law_35 rfl (lv_at hl 0 rfl) ?_
    refine va_get (D := G.1) (ci := 10) (v := .int (f0 9)) (C := RX10) (T := TX10) (N := 52) hx hb hts inlX10 hown hK hPD.1 0 rfl rfl 9 (by decide) (hts _ gw_554) (fun _ h9 => h9) rfl dX10_law_36 ?_
    refine lv_aload_n hx hb dX10_law_39 rfl (lv_at hl 0 rfl) ?_
    refine va_get (D := G.1) (ci := 10) (v := .int (f0 10)) (C := RX10) (T := TX10) (N := 52) hx hb hts inlX10 hown hK hPD.1 0 rfl rfl 10 (by decide) (hts _ gw_555) (fun _ h9 => h9) rfl dX10_law_40 ?_
    refine lv_icmp_ge (tgt := 71) hx hb dX10_law_43 (by decide) (fun cc1 => ?_) (fun cc1 => ?_)
    · have h := (if_pos cc1).symm.trans h
      exact ww_f10_law_b71 C0 A0 f0 l2 h _ _ _ hPD hS (lv_sub hl [0, 1, 2] rfl)
    · have h := (if_neg cc1).symm.trans h
      refine lv_aload_n hx hb dX10_law_46 rfl (lv_at hl 0 rfl) ?_
      refine lv_bipush (v := 59) hx hb dX10_law_47 (by decide) ?_
      obtain ⟨q_19, hq_19, h⟩ := ob2 h
      refine kVI (As := [.int 59]) (rest := []) C0 (kt_X10_takes l G h0 a0 f0 A0 59 hq_19) gi_V_X10_227_X10_takes (n := 1) rfl (by decide +kernel) rfl ⟨rfl, rfl, Nat.le_of_ble_eq_true rfl, Nat.le_of_ble_eq_true rfl⟩ hPD hS 0 10 rfl rfl rfl [0, 1, 2, 3, 4, 5, 6, 7, 8, 9, 10, 11, 12, 13, 14, 15, 16, 17, 18, 19, 20, 21, 22, 23, 24, 25, 26, 27, 28, 29, 30, 31, 32, 33] [] [0, 1, 2, 3, 4, 5, 6, 7, 8, 9, 10, 11, 12, 13, 14, 15, 16, 17, 18, 19, 20, 21, 22, 23, 24, 25, 26, 27, 28, 29, 30, 31, 32, 33] (wN := (wX10 G h0 a0 q_19.2 A0)) rfl rfl rfl rfl rfl hl.1 (Nat.le_of_ble_eq_true rfl) dX10_law_49 (fun H locs hPD hS => ?_)
      refine lv_if_eq (tgt := 66) hx hb dX10_law_52 (by decide) (fun cc1 => ?_) (fun cc1 => ?_)
      · have h := (if_pos cc1).symm.trans h
        refine lv_iconst (v := 0) hx hb dX10_law_66 (by decide) ?_
        refine lv_istore_n (lv' := [(2, .int 0), (0, .ref h0), (1, .int p1)]) hx hb dX10_law_67 rfl hl (by decide) rfl (fun ls hl => ?_)
        refine lv_goto (tgt := 31) hx hb dX10_law_68 (by decide) ?_
        exact hk31 A0 q_19.2 0 h _ _ _ hPD hS (lv_sub hl [1, 2, 0] rfl)
      · have h := (if_neg cc1).symm.trans h
        refine lv_aload_n hx hb dX10_law_55 rfl (lv_at hl 0 rfl) ?_
        obtain ⟨q_20, hq_20, h⟩ := ob2 h
        refine kVI (As := []) (rest := []) C0 (kt_X10_readsRule l G h0 a0 q_19.2 A0 hq_20) gi_V_X10_224_X10_readsRule (n := 0) rfl (by decide +kernel) rfl ⟨rfl, rfl, Nat.le_of_ble_eq_true rfl, Nat.le_of_ble_eq_true rfl⟩ hPD hS 0 10 rfl rfl rfl [0, 1, 2, 3, 4, 5, 6, 7, 8, 9, 10, 11, 12, 13, 14, 15, 16, 17, 18, 19, 20, 21, 22, 23, 24, 25, 26, 27, 28, 29, 30, 31, 32, 33] [] [0, 1, 2, 3, 4, 5, 6, 7, 8, 9, 10, 11, 12, 13, 14, 15, 16, 17, 18, 19, 20, 21, 22, 23, 24, 25, 26, 27, 28, 29, 30, 31, 32, 33] (wN := (wX10 G h0 a0 q_20.2.2 q_20.2.1)) rfl rfl rfl rfl rfl hl.1 (Nat.le_of_ble_eq_true rfl) dX10_law_56 (fun H locs hPD hS => ?_)
        refine lv_if_eq (tgt := 66) hx hb dX10_law_59 (by decide) (fun cc1 => ?_) (fun cc1 => ?_)
        · have h := (if_pos cc1).symm.trans h
          refine lv_iconst (v := 0) hx hb dX10_law_66 (by decide) ?_
          refine lv_istore_n (lv' := [(2, .int 0), (0, .ref h0), (1, .int p1)]) hx hb dX10_law_67 rfl hl (by decide) rfl (fun ls hl => ?_)
          refine lv_goto (tgt := 31) hx hb dX10_law_68 (by decide) ?_
          exact hk31 q_20.2.1 q_20.2.2 0 h _ _ _ hPD hS (lv_sub hl [1, 2, 0] rfl)
        · have h := (if_neg cc1).symm.trans h
          refine lv_iconst (v := 1) hx hb dX10_law_62 (by decide) ?_
          refine lv_goto (tgt := 67) hx hb dX10_law_63 (by decide) ?_
          refine lv_istore_n (lv' := [(2, .int 1), (0, .ref h0), (1, .int p1)]) hx hb dX10_law_67 rfl hl (by decide) rfl (fun ls hl => ?_)
          refine lv_goto (tgt := 31) hx hb dX10_law_68 (by decide) ?_
          exact hk31 q_20.2.1 q_20.2.2 1 h _ _ _ hPD hS (lv_sub hl [1, 2, 0] rfl)
set_option maxRecDepth 100000 in
set_option maxHeartbeats 4000000 in
theorem ww_f10_law_l31  (C0 : Cx cX10_law 4 (some .int) RX10 p s m args meth c G DA) {h0 : Nat} {a0 : Nat → Nat} {p1 : Int32}   {res : Int32 × (Nat → Nat → Int32) × (Nat → Int32)}  : ∀ (n : Nat) (A0 : Nat → Nat → Int32) (f0 : Nat → Int32) (l2 : Int32), f10_law_l31 p1  n A0 f0 l2 = some res → ∀ (H : Heap) (locs : List Loc) (ls : Array Slot), WD G DA (wX10 G h0 a0 f0 A0) H → va_S DA s.heap H locs → lv_has ls 4 [(0, .ref h0), (1, .int p1), (2, .int l2)] → W p l e rmX10_law s m args below meth c H locs 0 0 (MQ below (QI G DA res.1 (wX10 G h0 a0 res.2.2 res.2.1)) args s 0 0 DA) (F0 m 31 ls []) := by
  intro n
  induction n with
  | zero => intro A0 f0 l2 h; cases h
  | succ n ih => intro A0 f0 l2 h; exact ww_f10_law_b31 C0  ih A0 f0 l2 h
set_option maxRecDepth 100000 in
set_option maxHeartbeats 4000000 in
theorem kt_X10_law (l : Launch) (G : Gp) (h0 : Nat) (a0 : Nat → Nat) (f0 : Nat → Int32) (A0 : Nat → Nat → Int32) (p1 : Int32) : ∀ {r : Int32 × (Nat → Nat → Int32) × (Nat → Int32)}, f10_law f0 A0 p1 = some r → CtrI l yX10_law cX10_law 4 (some .int) rmX10_law G [.ref h0, .int p1] (wX10 G h0 a0 f0 A0) r.1 (wX10 G h0 a0 r.2.2 r.2.1) := by
  intro res h
  refine ctrI_of (cc := cX10_law) (maxL := 4) (ret := (some .int)) (by decide +kernel) rfl (Nat.le_of_ble_eq_true rfl) (fun p e s m below meth c DA C0 hP hD ls hl => ?_)
  have hPD : WD G DA (wX10 G h0 a0 f0 A0) s.heap := ⟨hP, hD⟩
  have hS : va_S DA s.heap s.heap [] := va_S.rf
  have hl : lv_has ls 4 [(0, .ref h0), (1, .int p1)] := hl
  obtain ⟨hx, hb, hml, hown, hts⟩ := C0.1
  have hK := C0.2.2.2.1
  unfold f10_law at h
  refine lv_iload_n hx hb dX10_law_0 rfl (lv_at hl 1 rfl) ?_
  refine lv_iconst (v := 1) hx hb dX10_law_1 (by decide) ?_
  refine lv_sipush (v := 240) hx hb dX10_law_2 (by decide) ?_
  refine kSI (As := [.int p1, .int 1, .int 240]) (rest := []) C0 (kt_X10_in l G  p1 1 240) gi_S_X10_112_X10_in (n := 3) rfl (by decide +kernel) ⟨rfl, rfl, Nat.le_of_ble_eq_true rfl, Nat.le_of_ble_eq_true rfl⟩ hPD hS [] [0, 1, 2, 3, 4, 5, 6, 7, 8, 9, 10, 11, 12, 13, 14, 15, 16, 17, 18, 19, 20, 21, 22, 23, 24, 25, 26, 27, 28, 29, 30, 31, 32, 33] [0, 1, 2, 3, 4, 5, 6, 7, 8, 9, 10, 11, 12, 13, 14, 15, 16, 17, 18, 19, 20, 21, 22, 23, 24, 25, 26, 27, 28, 29, 30, 31, 32, 33] (wN := (wX10 G h0 a0 f0 A0)) rfl rfl rfl rfl rfl hl.1 (Nat.le_of_ble_eq_true rfl) dX10_law_5 (fun H locs hPD hS => ?_)
  refine lv_if_eq (tgt := 19) hx hb dX10_law_8 (by decide) (fun cc1 => ?_) (fun cc1 => ?_)
  · have h := (if_pos cc1).symm.trans h
    refine lv_iconst (v := (-1)) hx hb dX10_law_19 (by decide) ?_
    obtain rfl := Option.some.inj h
    exact eI C0 hPD.1 hPD.2 hS rfl dX10_law_20
  · have h := (if_neg cc1).symm.trans h
    refine lv_iload_n hx hb dX10_law_11 rfl (lv_at hl 1 rfl) ?_
    refine lv_aload_n hx hb dX10_law_12 rfl (lv_at hl 0 rfl) ?_
    refine va_get (D := G.1) (ci := 10) (v := .int (f0 8)) (C := RX10) (T := TX10) (N := 52) hx hb hts inlX10 hown hK hPD.1 0 rfl rfl 8 (by decide) (hts _ gw_549) (fun _ h9 => h9) rfl dX10_law_13 ?_
    refine lv_icmp_le (tgt := 21) hx hb dX10_law_16 (by decide) (fun cc1 => ?_) (fun cc1 => ?_)
    · have h := (if_pos cc1).symm.trans h
      refine lv_aload_n hx hb dX10_law_21 rfl (lv_at hl 0 rfl) ?_
      refine lv_iload_n hx hb dX10_law_22 rfl (lv_at hl 1 rfl) ?_
      refine kVV (As := [.int p1]) (rest := []) C0 (kt_X10_beginsText l G h0 a0 f0 A0 p1) gi_V_X10_221_X10_beginsText (n := 1) rfl (by decide +kernel) rfl ⟨rfl, rfl, Nat.le_of_ble_eq_true rfl, Nat.le_of_ble_eq_true rfl⟩ hPD hS 0 10 rfl rfl rfl [0, 1, 2, 3, 4, 5, 6, 7, 8, 9, 10, 11, 12, 13, 14, 15, 16, 17, 18, 19, 20, 21, 22, 23, 24, 25, 26, 27, 28, 29, 30, 31, 32, 33] [] [0, 1, 2, 3, 4, 5, 6, 7, 8, 9, 10, 11, 12, 13, 14, 15, 16, 17, 18, 19, 20, 21, 22, 23, 24, 25, 26, 27, 28, 29, 30, 31, 32, 33] (wN := (wX10 G h0 a0 (f10_beginsText f0 A0 p1) A0)) rfl rfl rfl rfl rfl hl.1 (Nat.le_of_ble_eq_true rfl) dX10_law_23 (fun H locs hPD hS => ?_)
      refine lv_aload_n hx hb dX10_law_26 rfl (lv_at hl 0 rfl) ?_
      obtain ⟨q_1, hq_1, h⟩ := ob2 h
      refine kVI (As := []) (rest := []) C0 (kt_X10_readsRule l G h0 a0 (f10_beginsText f0 A0 p1) A0 hq_1) gi_V_X10_224_X10_readsRule (n := 0) rfl (by decide +kernel) rfl ⟨rfl, rfl, Nat.le_of_ble_eq_true rfl, Nat.le_of_ble_eq_true rfl⟩ hPD hS 0 10 rfl rfl rfl [0, 1, 2, 3, 4, 5, 6, 7, 8, 9, 10, 11, 12, 13, 14, 15, 16, 17, 18, 19, 20, 21, 22, 23, 24, 25, 26, 27, 28, 29, 30, 31, 32, 33] [] [0, 1, 2, 3, 4, 5, 6, 7, 8, 9, 10, 11, 12, 13, 14, 15, 16, 17, 18, 19, 20, 21, 22, 23, 24, 25, 26, 27, 28, 29, 30, 31, 32, 33] (wN := (wX10 G h0 a0 q_1.2.2 q_1.2.1)) rfl rfl rfl rfl rfl hl.1 (Nat.le_of_ble_eq_true rfl) dX10_law_27 (fun H locs hPD hS => ?_)
      refine lv_istore_n (lv' := [(2, .int q_1.1), (0, .ref h0), (1, .int p1)]) hx hb dX10_law_30 rfl hl (by decide) rfl (fun ls hl => ?_)
      exact ww_f10_law_l31 C0 NF q_1.2.1 q_1.2.2 q_1.1 h _ _ _ hPD hS (lv_sub hl [1, 2, 0] rfl)
    · have h := (if_neg cc1).symm.trans h
      refine lv_iconst (v := (-1)) hx hb dX10_law_19 (by decide) ?_
      obtain rfl := Option.some.inj h
      exact eI C0 hPD.1 hPD.2 hS rfl dX10_law_20
abbrev rmX10_reckon : Room := { frames := 0, cells := 0, slots := 0, locals := 0 }
set_option maxRecDepth 100000 in
set_option maxHeartbeats 4000000 in
theorem kt_X10_reckon (l : Launch) (G : Gp) (p0 : Int32) (p1 : Int32) (p2 : Int32) : ∀ {r : Int32}, f10_reckon p0 p1 p2 = some r → CtrI l yX10_reckon cX10_reckon 3 (some .int) rmX10_reckon G [.int p0, .int p1, .int p2] ([] : va_W) r ([] : va_W) := by
  intro res h
  refine ctrI_of (cc := cX10_reckon) (maxL := 3) (ret := (some .int)) (by decide +kernel) rfl (Nat.le_of_ble_eq_true rfl) (fun p e s m below meth c DA C0 hP hD ls hl => ?_)
  have hPD : WD G DA ([] : va_W) s.heap := ⟨hP, hD⟩
  have hS : va_S DA s.heap s.heap [] := va_S.rf
  have hl : lv_has ls 3 [(0, .int p0), (1, .int p1), (2, .int p2)] := hl
  obtain ⟨hx, hb, hml, hown, hts⟩ := C0.1
  have hK := C0.2.2.2.1
  unfold f10_reckon at h
  refine lv_iload_n hx hb dX10_reckon_0 rfl (lv_at hl 0 rfl) ?_
  by_cases cc2 : p0 = 2
  · have h := (if_pos cc2).symm.trans h
    refine lv_swT (tgt := 44) (k := 2) hx hb dX10_reckon_1 cc2 (by decide) (by decide) ?_
    refine lv_iload_n hx hb dX10_reckon_44 rfl (lv_at hl 1 rfl) ?_
    refine lv_iload_n hx hb dX10_reckon_45 rfl (lv_at hl 2 rfl) ?_
    refine lv_iadd hx hb dX10_reckon_46 ?_
    obtain rfl := Option.some.inj h
    exact eI C0 hPD.1 hPD.2 hS rfl dX10_reckon_47
  have h := (if_neg cc2).symm.trans h
  by_cases cc3 : p0 = 3
  · have h := (if_pos cc3).symm.trans h
    refine lv_swT (tgt := 48) (k := 3) hx hb dX10_reckon_1 cc3 (by decide) (by decide) ?_
    refine lv_iload_n hx hb dX10_reckon_48 rfl (lv_at hl 1 rfl) ?_
    refine lv_iload_n hx hb dX10_reckon_49 rfl (lv_at hl 2 rfl) ?_
    refine lv_isub hx hb dX10_reckon_50 ?_
    obtain rfl := Option.some.inj h
    exact eI C0 hPD.1 hPD.2 hS rfl dX10_reckon_51
  have h := (if_neg cc3).symm.trans h
  by_cases cc4 : p0 = 4
  · have h := (if_pos cc4).symm.trans h
    refine lv_swT (tgt := 52) (k := 4) hx hb dX10_reckon_1 cc4 (by decide) (by decide) ?_
    refine lv_iload_n hx hb dX10_reckon_52 rfl (lv_at hl 1 rfl) ?_
    refine lv_iload_n hx hb dX10_reckon_53 rfl (lv_at hl 2 rfl) ?_
    refine lv_imul hx hb dX10_reckon_54 ?_
    obtain rfl := Option.some.inj h
    exact eI C0 hPD.1 hPD.2 hS rfl dX10_reckon_55
  have h := (if_neg cc4).symm.trans h
  by_cases cc5 : p0 = 5
  · have h := (if_pos cc5).symm.trans h
    refine lv_swT (tgt := 56) (k := 5) hx hb dX10_reckon_1 cc5 (by decide) (by decide) ?_
    refine lv_iload_n hx hb dX10_reckon_56 rfl (lv_at hl 1 rfl) ?_
    refine lv_iload_n hx hb dX10_reckon_57 rfl (lv_at hl 2 rfl) ?_
    obtain ⟨hz, h⟩ := ob h
    refine lv_idiv hx hb dX10_reckon_58 hz ?_
    obtain rfl := Option.some.inj h
    exact eI C0 hPD.1 hPD.2 hS rfl dX10_reckon_59
  have h := (if_neg cc5).symm.trans h
  by_cases cc6 : p0 = 6
  · have h := (if_pos cc6).symm.trans h
    refine lv_swT (tgt := 60) (k := 6) hx hb dX10_reckon_1 cc6 (by decide) (by decide) ?_
    refine lv_iload_n hx hb dX10_reckon_60 rfl (lv_at hl 1 rfl) ?_
    refine lv_iload_n hx hb dX10_reckon_61 rfl (lv_at hl 2 rfl) ?_
    obtain ⟨hz, h⟩ := ob h
    refine lv_irem hx hb dX10_reckon_62 hz ?_
    obtain rfl := Option.some.inj h
    exact eI C0 hPD.1 hPD.2 hS rfl dX10_reckon_63
  have h := (if_neg cc6).symm.trans h
  by_cases cc7 : p0 = 7
  · have h := (if_pos cc7).symm.trans h
    refine lv_swT (tgt := 64) (k := 7) hx hb dX10_reckon_1 cc7 (by decide) (by decide) ?_
    refine lv_iload_n hx hb dX10_reckon_64 rfl (lv_at hl 1 rfl) ?_
    refine lv_iload_n hx hb dX10_reckon_65 rfl (lv_at hl 2 rfl) ?_
    refine lv_icmp_ge (tgt := 73) hx hb dX10_reckon_66 (by decide) (fun cc1 => ?_) (fun cc1 => ?_)
    · have h := (if_pos cc1).symm.trans h
      refine lv_iconst (v := 0) hx hb dX10_reckon_73 (by decide) ?_
      obtain rfl := Option.some.inj h
      exact eI C0 hPD.1 hPD.2 hS rfl dX10_reckon_74
    · have h := (if_neg cc1).symm.trans h
      refine lv_iconst (v := 1) hx hb dX10_reckon_69 (by decide) ?_
      refine lv_goto (tgt := 74) hx hb dX10_reckon_70 (by decide) ?_
      obtain rfl := Option.some.inj h
      exact eI C0 hPD.1 hPD.2 hS rfl dX10_reckon_74
  have h := (if_neg cc7).symm.trans h
  by_cases cc8 : p0 = 8
  · have h := (if_pos cc8).symm.trans h
    refine lv_swT (tgt := 75) (k := 8) hx hb dX10_reckon_1 cc8 (by decide) (by decide) ?_
    refine lv_iload_n hx hb dX10_reckon_75 rfl (lv_at hl 1 rfl) ?_
    refine lv_iload_n hx hb dX10_reckon_76 rfl (lv_at hl 2 rfl) ?_
    refine lv_icmp_le (tgt := 84) hx hb dX10_reckon_77 (by decide) (fun cc1 => ?_) (fun cc1 => ?_)
    · have h := (if_pos cc1).symm.trans h
      refine lv_iconst (v := 0) hx hb dX10_reckon_84 (by decide) ?_
      obtain rfl := Option.some.inj h
      exact eI C0 hPD.1 hPD.2 hS rfl dX10_reckon_85
    · have h := (if_neg cc1).symm.trans h
      refine lv_iconst (v := 1) hx hb dX10_reckon_80 (by decide) ?_
      refine lv_goto (tgt := 85) hx hb dX10_reckon_81 (by decide) ?_
      obtain rfl := Option.some.inj h
      exact eI C0 hPD.1 hPD.2 hS rfl dX10_reckon_85
  have h := (if_neg cc8).symm.trans h
  refine lv_swTD (tgt := 86) (ks := [2, 3, 4, 5, 6, 7, 8]) hx hb dX10_reckon_1 (by decide) (by decide) ⟨cc2, cc3, cc4, cc5, cc6, cc7, cc8, trivial⟩ (by decide) ?_
  refine lv_iload_n hx hb dX10_reckon_86 rfl (lv_at hl 1 rfl) ?_
  refine lv_iload_n hx hb dX10_reckon_87 rfl (lv_at hl 2 rfl) ?_
  refine lv_icmp_ne (tgt := 95) hx hb dX10_reckon_88 (by decide) (fun cc1 => ?_) (fun cc1 => ?_)
  · have h := (if_neg cc1).symm.trans h
    refine lv_iconst (v := 0) hx hb dX10_reckon_95 (by decide) ?_
    obtain rfl := Option.some.inj h
    exact eI C0 hPD.1 hPD.2 hS rfl dX10_reckon_96
  · have h := (if_pos cc1).symm.trans h
    refine lv_iconst (v := 1) hx hb dX10_reckon_91 (by decide) ?_
    refine lv_goto (tgt := 96) hx hb dX10_reckon_92 (by decide) ?_
    obtain rfl := Option.some.inj h
    exact eI C0 hPD.1 hPD.2 hS rfl dX10_reckon_96
abbrev rmX10_comesTo : Room := { frames := 1, cells := 0, slots := 0, locals := 22 }
set_option maxRecDepth 100000 in
set_option maxHeartbeats 4000000 in
theorem ww_f10_comesTo_b63  (C0 : Cx cX10_comesTo 8 (some .int) RX10 p s m args meth c G DA) {h0 : Nat} {a0 : Nat → Nat} {f0 : Nat → Int32} {p1 : Int32} {p2 : Int32}  {k16 : (Nat → Nat → Int32) → Int32 → Int32 → Int32 → Option (Int32 × (Nat → Nat → Int32))} {res : Int32 × (Nat → Nat → Int32)} (hk16 : ∀ (A0 : Nat → Nat → Int32) (l3 : Int32) (l4 : Int32) (l5 : Int32), k16 A0 l3 l4 l5 = some res → ∀ (H : Heap) (locs : List Loc) (ls : Array Slot), WD G DA (wX10 G h0 a0 f0 A0) H → va_S DA s.heap H locs → lv_has ls 8 [(0, .ref h0), (1, .int p1), (2, .int p2), (3, .int l3), (4, .int l4), (5, .int l5)] → W p l e rmX10_comesTo s m args below meth c H locs 0 0 (MQ below (QI G DA res.1 (wX10 G h0 a0 f0 res.2)) args s 0 0 DA) (F0 m 16 ls [])) : ∀ (A0 : Nat → Nat → Int32) (l3 : Int32) (l4 : Int32) (l5 : Int32) (l6 : Int32) (l7 : Int32), f10_comesTo_b63 f0 p1 p2 k16 A0 l3 l4 l5 l6 l7 = some res → ∀ (H : Heap) (locs : List Loc) (ls : Array Slot), WD G DA (wX10 G h0 a0 f0 A0) H → va_S DA s.heap H locs → lv_has ls 8 [(0, .ref h0), (1, .int p1), (2, .int p2), (3, .int l3), (4, .int l4), (5, .int l5), (6, .int l6), (7, .int l7)] → W p l e rmX10_comesTo s m args below meth c H locs 0 0 (MQ below (QI G DA res.1 (wX10 G h0 a0 f0 res.2)) args s 0 0 DA) (F0 m 63 ls []) := by
  obtain ⟨hx, hb, hml, hown, hts⟩ := C0.1
  have hK := C0.2.2.2.1
  intro A0 l3 l4 l5 l6 l7 h _ _ _ hPD hS hl
  unfold f10_comesTo_b63 at h
  refine lv_aload_n hx hb dX10_comesTo_63 rfl (lv_at hl 0 rfl) ?_
  refine va_get (D := G.1) (ci := 10) (v := .ref (a0 29)) (C := RX10) (T := TX10) (N := 52) hx hb hts inlX10 hown hK hPD.1 0 rfl rfl 29 (by decide) (hts _ gw_657) (fun _ h9 => h9) rfl dX10_comesTo_64 ?_
  refine lv_iload_n hx hb dX10_comesTo_67 rfl (lv_at hl 3 rfl) ?_
  refine lv_iload hx hb dX10_comesTo_68 (lv_at hl 6 rfl) ?_
  refine lv_if_ne (tgt := 78) hx hb dX10_comesTo_70 (by decide) (fun cc1 => ?_) (fun cc1 => ?_)
  · have h := (if_neg cc1).symm.trans h
    refine lv_aload_n hx hb dX10_comesTo_78 rfl (lv_at hl 0 rfl) ?_
    refine va_get (D := G.1) (ci := 10) (v := .ref (a0 30)) (C := RX10) (T := TX10) (N := 52) hx hb hts inlX10 hown hK hPD.1 0 rfl rfl 30 (by decide) (hts _ gw_658) (fun _ h9 => h9) rfl dX10_comesTo_79 ?_
    refine lv_iload hx hb dX10_comesTo_82 (lv_at hl 7 rfl) ?_
    obtain ⟨hi_3, h⟩ := ob h
    refine va_iald hx hb hK hPD.1 20 1 rfl rfl hi_3 dX10_comesTo_84 ?_
    obtain ⟨hi_4, h⟩ := ob h
    refine va_iast hx hb hK hPD.1 hPD.2 hS 19 1 rfl rfl hi_4 dX10_comesTo_85 (fun H locs hP hD hS => ?_)
    obtain ⟨A0_5, eA0_5, h⟩ := lvl h
    have hPD : WD G DA (wX10 G h0 a0 f0 A0_5) H := by rw [eA0_5]; exact ⟨hP, hD⟩
    clear eA0_5 hP hD
    refine lv_iload_n hx hb dX10_comesTo_86 rfl (lv_at hl 3 rfl) ?_
    refine lv_iconst (v := 1) hx hb dX10_comesTo_87 (by decide) ?_
    refine lv_iadd hx hb dX10_comesTo_88 ?_
    refine lv_istore_n (lv' := [(3, .int (l3 + 1)), (0, .ref h0), (1, .int p1), (2, .int p2), (4, .int l4), (5, .int l5), (6, .int l6), (7, .int l7)]) hx hb dX10_comesTo_89 rfl hl (by decide) rfl (fun ls hl => ?_)
    refine lv_goto (tgt := 230) hx hb dX10_comesTo_90 (by decide) ?_
    refine lv_goto (tgt := 16) hx hb dX10_comesTo_230 (by decide) ?_
    exact hk16 A0_5 (l3 + 1) l4 l5 h _ _ _ hPD hS (lv_sub hl [1, 2, 3, 0, 4, 5] rfl)
  · have h := (if_pos cc1).symm.trans h
    refine lv_iload hx hb dX10_comesTo_73 (lv_at hl 7 rfl) ?_
    refine lv_goto (tgt := 85) hx hb dX10_comesTo_75 (by decide) ?_
    obtain ⟨hi_6, h⟩ := ob h
    refine va_iast hx hb hK hPD.1 hPD.2 hS 19 1 rfl rfl hi_6 dX10_comesTo_85 (fun H locs hP hD hS => ?_)
    obtain ⟨A0_7, eA0_7, h⟩ := lvl h
    have hPD : WD G DA (wX10 G h0 a0 f0 A0_7) H := by rw [eA0_7]; exact ⟨hP, hD⟩
    clear eA0_7 hP hD
    refine lv_iload_n hx hb dX10_comesTo_86 rfl (lv_at hl 3 rfl) ?_
    refine lv_iconst (v := 1) hx hb dX10_comesTo_87 (by decide) ?_
    refine lv_iadd hx hb dX10_comesTo_88 ?_
    refine lv_istore_n (lv' := [(3, .int (l3 + 1)), (0, .ref h0), (1, .int p1), (2, .int p2), (4, .int l4), (5, .int l5), (6, .int l6), (7, .int l7)]) hx hb dX10_comesTo_89 rfl hl (by decide) rfl (fun ls hl => ?_)
    refine lv_goto (tgt := 230) hx hb dX10_comesTo_90 (by decide) ?_
    refine lv_goto (tgt := 16) hx hb dX10_comesTo_230 (by decide) ?_
    exact hk16 A0_7 (l3 + 1) l4 l5 h _ _ _ hPD hS (lv_sub hl [1, 2, 3, 0, 4, 5] rfl)
set_option maxRecDepth 100000 in
set_option maxHeartbeats 4000000 in
theorem ww_f10_comesTo_b155  (C0 : Cx cX10_comesTo 8 (some .int) RX10 p s m args meth c G DA) {h0 : Nat} {a0 : Nat → Nat} {f0 : Nat → Int32} {p1 : Int32} {p2 : Int32}  {k16 : (Nat → Nat → Int32) → Int32 → Int32 → Int32 → Option (Int32 × (Nat → Nat → Int32))} {res : Int32 × (Nat → Nat → Int32)} (hk16 : ∀ (A0 : Nat → Nat → Int32) (l3 : Int32) (l4 : Int32) (l5 : Int32), k16 A0 l3 l4 l5 = some res → ∀ (H : Heap) (locs : List Loc) (ls : Array Slot), WD G DA (wX10 G h0 a0 f0 A0) H → va_S DA s.heap H locs → lv_has ls 8 [(0, .ref h0), (1, .int p1), (2, .int p2), (3, .int l3), (4, .int l4), (5, .int l5)] → W p l e rmX10_comesTo s m args below meth c H locs 0 0 (MQ below (QI G DA res.1 (wX10 G h0 a0 f0 res.2)) args s 0 0 DA) (F0 m 16 ls [])) : ∀ (A0 : Nat → Nat → Int32) (l3 : Int32) (l4 : Int32) (l5 : Int32) (l7 : Int32) (s0 : Int32) (s1 : Int32), f10_comesTo_b155 f0 p1 p2 k16 A0 l3 l4 l5 l7 s0 s1 = some res → ∀ (H : Heap) (locs : List Loc) (ls : Array Slot), WD G DA (wX10 G h0 a0 f0 A0) H → va_S DA s.heap H locs → lv_has ls 8 [(0, .ref h0), (1, .int p1), (2, .int p2), (3, .int l3), (4, .int l4), (5, .int l5), (7, .int l7)] → W p l e rmX10_comesTo s m args below meth c H locs 0 0 (MQ below (QI G DA res.1 (wX10 G h0 a0 f0 res.2)) args s 0 0 DA) (F0 m 155 ls [.int s0, .int s1]) := by
  obtain ⟨hx, hb, hml, hown, hts⟩ := C0.1
  have hK := C0.2.2.2.1
  intro A0 l3 l4 l5 l7 s0 s1 h _ _ _ hPD hS hl
  unfold f10_comesTo_b155 at h
  refine lv_icmp_ne (tgt := 168) hx hb dX10_comesTo_155 (by decide) (fun cc1 => ?_) (fun cc1 => ?_)
  · have h := (if_neg cc1).symm.trans h
    refine lv_iload_n hx hb dX10_comesTo_168 rfl (lv_at hl 3 rfl) ?_
    refine lv_iconst (v := 1) hx hb dX10_comesTo_169 (by decide) ?_
    refine lv_isub hx hb dX10_comesTo_170 ?_
    refine lv_istore_n (lv' := [(3, .int (l3 - 1)), (0, .ref h0), (1, .int p1), (2, .int p2), (4, .int l4), (5, .int l5), (7, .int l7)]) hx hb dX10_comesTo_171 rfl hl (by decide) rfl (fun ls hl => ?_)
    refine lv_goto (tgt := 230) hx hb dX10_comesTo_172 (by decide) ?_
    refine lv_goto (tgt := 16) hx hb dX10_comesTo_230 (by decide) ?_
    exact hk16 A0 (l3 - 1) l4 l5 h _ _ _ hPD hS (lv_sub hl [1, 2, 3, 0, 4, 5] rfl)
  · have h := (if_pos cc1).symm.trans h
    refine lv_iload hx hb dX10_comesTo_158 (lv_at hl 4 rfl) ?_
    refine lv_iload hx hb dX10_comesTo_160 (lv_at hl 6 rfl) ?_
    refine lv_iadd hx hb dX10_comesTo_162 ?_
    refine lv_istore (lv' := [(5, .int (l4 + l7)), (0, .ref h0), (1, .int p1), (2, .int p2), (3, .int l3), (4, .int l4), (7, .int l7)]) hx hb dX10_comesTo_163 hl (by decide) rfl (fun ls hl => ?_)
    refine lv_goto (tgt := 230) hx hb dX10_comesTo_165 (by decide) ?_
    refine lv_goto (tgt := 16) hx hb dX10_comesTo_230 (by decide) ?_
    exact hk16 A0 l3 l4 (l4 + l7) h _ _ _ hPD hS (lv_sub hl [1, 2, 3, 4, 5, 0] rfl)
set_option maxRecDepth 100000 in
set_option maxHeartbeats 4000000 in
theorem ww_f10_comesTo_b135  (C0 : Cx cX10_comesTo 8 (some .int) RX10 p s m args meth c G DA) {h0 : Nat} {a0 : Nat → Nat} {f0 : Nat → Int32} {p1 : Int32} {p2 : Int32}  {k16 : (Nat → Nat → Int32) → Int32 → Int32 → Int32 → Option (Int32 × (Nat → Nat → Int32))} {res : Int32 × (Nat → Nat → Int32)} (hk16 : ∀ (A0 : Nat → Nat → Int32) (l3 : Int32) (l4 : Int32) (l5 : Int32), k16 A0 l3 l4 l5 = some res → ∀ (H : Heap) (locs : List Loc) (ls : Array Slot), WD G DA (wX10 G h0 a0 f0 A0) H → va_S DA s.heap H locs → lv_has ls 8 [(0, .ref h0), (1, .int p1), (2, .int p2), (3, .int l3), (4, .int l4), (5, .int l5)] → W p l e rmX10_comesTo s m args below meth c H locs 0 0 (MQ below (QI G DA res.1 (wX10 G h0 a0 f0 res.2)) args s 0 0 DA) (F0 m 16 ls [])) : ∀ (A0 : Nat → Nat → Int32) (l3 : Int32) (l4 : Int32) (l5 : Int32) (l6 : Int32) (l7 : Int32), f10_comesTo_b135 f0 p1 p2 k16 A0 l3 l4 l5 l6 l7 = some res → ∀ (H : Heap) (locs : List Loc) (ls : Array Slot), WD G DA (wX10 G h0 a0 f0 A0) H → va_S DA s.heap H locs → lv_has ls 8 [(0, .ref h0), (1, .int p1), (2, .int p2), (3, .int l3), (4, .int l4), (5, .int l5), (6, .int l6), (7, .int l7)] → W p l e rmX10_comesTo s m args below meth c H locs 0 0 (MQ below (QI G DA res.1 (wX10 G h0 a0 f0 res.2)) args s 0 0 DA) (F0 m 135 ls []) := by
  obtain ⟨hx, hb, hml, hown, hts⟩ := C0.1
  have hK := C0.2.2.2.1
  intro A0 l3 l4 l5 l6 l7 h _ _ _ hPD hS hl
  unfold f10_comesTo_b135 at h
  refine lv_aload_n hx hb dX10_comesTo_135 rfl (lv_at hl 0 rfl) ?_
  refine va_get (D := G.1) (ci := 10) (v := .ref (a0 29)) (C := RX10) (T := TX10) (N := 52) hx hb hts inlX10 hown hK hPD.1 0 rfl rfl 29 (by decide) (hts _ gw_657) (fun _ h9 => h9) rfl dX10_comesTo_136 ?_
  refine lv_iload_n hx hb dX10_comesTo_139 rfl (lv_at hl 3 rfl) ?_
  refine lv_iconst (v := 1) hx hb dX10_comesTo_140 (by decide) ?_
  refine lv_isub hx hb dX10_comesTo_141 ?_
  obtain ⟨hi_8, h⟩ := ob h
  refine va_iald hx hb hK hPD.1 19 1 rfl rfl hi_8 dX10_comesTo_142 ?_
  refine lv_iload hx hb dX10_comesTo_143 (lv_at hl 6 rfl) ?_
  refine lv_bipush (v := 12) hx hb dX10_comesTo_145 (by decide) ?_
  refine lv_icmp_ne (tgt := 154) hx hb dX10_comesTo_147 (by decide) (fun cc1 => ?_) (fun cc1 => ?_)
  · have h := (if_neg cc1).symm.trans h
    refine lv_iconst (v := 0) hx hb dX10_comesTo_154 (by decide) ?_
    exact ww_f10_comesTo_b155 C0 hk16 A0 l3 l4 l5 l7 0 (gx (A0 29) (l3 - 1)) h _ _ _ hPD hS (lv_sub hl [0, 1, 2, 3, 4, 5, 7] rfl)
  · have h := (if_pos cc1).symm.trans h
    refine lv_iconst (v := 1) hx hb dX10_comesTo_150 (by decide) ?_
    refine lv_goto (tgt := 155) hx hb dX10_comesTo_151 (by decide) ?_
    exact ww_f10_comesTo_b155 C0 hk16 A0 l3 l4 l5 l7 1 (gx (A0 29) (l3 - 1)) h _ _ _ hPD hS (lv_sub hl [0, 1, 2, 3, 4, 5, 7] rfl)
set_option maxRecDepth 100000 in
set_option maxHeartbeats 4000000 in
theorem ww_f10_comesTo_b203  (C0 : Cx cX10_comesTo 8 (some .int) RX10 p s m args meth c G DA) {h0 : Nat} {a0 : Nat → Nat} {f0 : Nat → Int32} {p1 : Int32} {p2 : Int32}  {k16 : (Nat → Nat → Int32) → Int32 → Int32 → Int32 → Option (Int32 × (Nat → Nat → Int32))} {res : Int32 × (Nat → Nat → Int32)} (hk16 : ∀ (A0 : Nat → Nat → Int32) (l3 : Int32) (l4 : Int32) (l5 : Int32), k16 A0 l3 l4 l5 = some res → ∀ (H : Heap) (locs : List Loc) (ls : Array Slot), WD G DA (wX10 G h0 a0 f0 A0) H → va_S DA s.heap H locs → lv_has ls 8 [(0, .ref h0), (1, .int p1), (2, .int p2), (3, .int l3), (4, .int l4), (5, .int l5)] → W p l e rmX10_comesTo s m args below meth c H locs 0 0 (MQ below (QI G DA res.1 (wX10 G h0 a0 f0 res.2)) args s 0 0 DA) (F0 m 16 ls [])) : ∀ (A0 : Nat → Nat → Int32) (l3 : Int32) (l4 : Int32) (l5 : Int32) (l6 : Int32), f10_comesTo_b203 f0 p1 p2 k16 A0 l3 l4 l5 l6 = some res → ∀ (H : Heap) (locs : List Loc) (ls : Array Slot), WD G DA (wX10 G h0 a0 f0 A0) H → va_S DA s.heap H locs → lv_has ls 8 [(0, .ref h0), (1, .int p1), (2, .int p2), (3, .int l3), (4, .int l4), (5, .int l5), (6, .int l6)] → W p l e rmX10_comesTo s m args below meth c H locs 0 0 (MQ below (QI G DA res.1 (wX10 G h0 a0 f0 res.2)) args s 0 0 DA) (F0 m 203 ls []) := by
  obtain ⟨hx, hb, hml, hown, hts⟩ := C0.1
  have hK := C0.2.2.2.1
  intro A0 l3 l4 l5 l6 h _ _ _ hPD hS hl
  unfold f10_comesTo_b203 at h
  refine lv_aload_n hx hb dX10_comesTo_203 rfl (lv_at hl 0 rfl) ?_
  refine va_get (D := G.1) (ci := 10) (v := .ref (a0 29)) (C := RX10) (T := TX10) (N := 52) hx hb hts inlX10 hown hK hPD.1 0 rfl rfl 29 (by decide) (hts _ gw_657) (fun _ h9 => h9) rfl dX10_comesTo_204 ?_
  refine lv_iload_n hx hb dX10_comesTo_207 rfl (lv_at hl 3 rfl) ?_
  refine lv_iconst (v := 1) hx hb dX10_comesTo_208 (by decide) ?_
  refine lv_isub hx hb dX10_comesTo_209 ?_
  refine lv_iload hx hb dX10_comesTo_210 (lv_at hl 6 rfl) ?_
  refine lv_aload_n hx hb dX10_comesTo_212 rfl (lv_at hl 0 rfl) ?_
  refine va_get (D := G.1) (ci := 10) (v := .ref (a0 29)) (C := RX10) (T := TX10) (N := 52) hx hb hts inlX10 hown hK hPD.1 0 rfl rfl 29 (by decide) (hts _ gw_657) (fun _ h9 => h9) rfl dX10_comesTo_213 ?_
  refine lv_iload_n hx hb dX10_comesTo_216 rfl (lv_at hl 3 rfl) ?_
  refine lv_iconst (v := 1) hx hb dX10_comesTo_217 (by decide) ?_
  refine lv_isub hx hb dX10_comesTo_218 ?_
  obtain ⟨hi_10, h⟩ := ob h
  refine va_iald hx hb hK hPD.1 19 1 rfl rfl hi_10 dX10_comesTo_219 ?_
  refine lv_aload_n hx hb dX10_comesTo_220 rfl (lv_at hl 0 rfl) ?_
  refine va_get (D := G.1) (ci := 10) (v := .ref (a0 29)) (C := RX10) (T := TX10) (N := 52) hx hb hts inlX10 hown hK hPD.1 0 rfl rfl 29 (by decide) (hts _ gw_657) (fun _ h9 => h9) rfl dX10_comesTo_221 ?_
  refine lv_iload_n hx hb dX10_comesTo_224 rfl (lv_at hl 3 rfl) ?_
  obtain ⟨hi_11, h⟩ := ob h
  refine va_iald hx hb hK hPD.1 19 1 rfl rfl hi_11 dX10_comesTo_225 ?_
  obtain ⟨q_12, hq_12, h⟩ := ob2 h
  refine kSI (As := [.int l6, .int (gx (A0 29) (l3 - 1)), .int (gx (A0 29) l3)]) (rest := [.int (l3 - 1), .ref (a0 29)]) C0 (kt_X10_reckon l G  l6 (gx (A0 29) (l3 - 1)) (gx (A0 29) l3) hq_12) gi_S_X10_233_X10_reckon (n := 3) rfl (by decide +kernel) ⟨rfl, rfl, Nat.le_of_ble_eq_true rfl, Nat.le_of_ble_eq_true rfl⟩ hPD hS [] [0, 1, 2, 3, 4, 5, 6, 7, 8, 9, 10, 11, 12, 13, 14, 15, 16, 17, 18, 19, 20, 21, 22, 23, 24, 25, 26, 27, 28, 29, 30, 31, 32, 33] [0, 1, 2, 3, 4, 5, 6, 7, 8, 9, 10, 11, 12, 13, 14, 15, 16, 17, 18, 19, 20, 21, 22, 23, 24, 25, 26, 27, 28, 29, 30, 31, 32, 33] (wN := (wX10 G h0 a0 f0 A0)) rfl rfl rfl rfl rfl hl.1 (Nat.le_of_ble_eq_true rfl) dX10_comesTo_226 (fun H locs hPD hS => ?_)
  obtain ⟨hi_13, h⟩ := ob h
  refine va_iast hx hb hK hPD.1 hPD.2 hS 19 1 rfl rfl hi_13 dX10_comesTo_229 (fun H locs hP hD hS => ?_)
  obtain ⟨A0_14, eA0_14, h⟩ := lvl h
  have hPD : WD G DA (wX10 G h0 a0 f0 A0_14) H := by rw [eA0_14]; exact ⟨hP, hD⟩
  clear eA0_14 hP hD
  refine lv_goto (tgt := 16) hx hb dX10_comesTo_230 (by decide) ?_
  exact hk16 A0_14 l3 l4 l5 h _ _ _ hPD hS (lv_sub hl [0, 1, 2, 3, 4, 5] rfl)
set_option maxRecDepth 100000 in
set_option maxHeartbeats 4000000 in
theorem ww_f10_comesTo_b16  (C0 : Cx cX10_comesTo 8 (some .int) RX10 p s m args meth c G DA) {h0 : Nat} {a0 : Nat → Nat} {f0 : Nat → Int32} {p1 : Int32} {p2 : Int32}  {k16 : (Nat → Nat → Int32) → Int32 → Int32 → Int32 → Option (Int32 × (Nat → Nat → Int32))} {res : Int32 × (Nat → Nat → Int32)}  (hk16 : ∀ (A0 : Nat → Nat → Int32) (l3 : Int32) (l4 : Int32) (l5 : Int32), k16 A0 l3 l4 l5 = some res → ∀ (H : Heap) (locs : List Loc) (ls : Array Slot), WD G DA (wX10 G h0 a0 f0 A0) H → va_S DA s.heap H locs → lv_has ls 8 [(0, .ref h0), (1, .int p1), (2, .int p2), (3, .int l3), (4, .int l4), (5, .int l5)] → W p l e rmX10_comesTo s m args below meth c H locs 0 0 (MQ below (QI G DA res.1 (wX10 G h0 a0 f0 res.2)) args s 0 0 DA) (F0 m 16 ls [])) : ∀ (A0 : Nat → Nat → Int32) (l3 : Int32) (l4 : Int32) (l5 : Int32), f10_comesTo_b16 f0 p1 p2  k16 A0 l3 l4 l5 = some res → ∀ (H : Heap) (locs : List Loc) (ls : Array Slot), WD G DA (wX10 G h0 a0 f0 A0) H → va_S DA s.heap H locs → lv_has ls 8 [(0, .ref h0), (1, .int p1), (2, .int p2), (3, .int l3), (4, .int l4), (5, .int l5)] → W p l e rmX10_comesTo s m args below meth c H locs 0 0 (MQ below (QI G DA res.1 (wX10 G h0 a0 f0 res.2)) args s 0 0 DA) (F0 m 16 ls []) := by
  obtain ⟨hx, hb, hml, hown, hts⟩ := C0.1
  have hK := C0.2.2.2.1
  intro A0 l3 l4 l5 h _ _ _ hPD hS hl
  unfold f10_comesTo_b16 at h
  refine lv_iload hx hb dX10_comesTo_16 (lv_at hl 5 rfl) ?_
  refine lv_iload_n hx hb dX10_comesTo_18 rfl (lv_at hl 2 rfl) ?_
  refine lv_icmp_ge (tgt := 233) hx hb dX10_comesTo_19 (by decide) (fun cc1 => ?_) (fun cc1 => ?_)
  · have h := (if_pos cc1).symm.trans h
    refine lv_aload_n hx hb dX10_comesTo_233 rfl (lv_at hl 0 rfl) ?_
    refine va_get (D := G.1) (ci := 10) (v := .ref (a0 29)) (C := RX10) (T := TX10) (N := 52) hx hb hts inlX10 hown hK hPD.1 0 rfl rfl 29 (by decide) (hts _ gw_657) (fun _ h9 => h9) rfl dX10_comesTo_234 ?_
    refine lv_iconst (v := 0) hx hb dX10_comesTo_237 (by decide) ?_
    refine va_iald hx hb hK hPD.1 19 1 rfl rfl (vin rfl) dX10_comesTo_238 ?_
    obtain rfl := Option.some.inj h
    exact eI C0 hPD.1 hPD.2 hS rfl dX10_comesTo_239
  · have h := (if_neg cc1).symm.trans h
    refine lv_aload_n hx hb dX10_comesTo_22 rfl (lv_at hl 0 rfl) ?_
    refine va_get (D := G.1) (ci := 10) (v := .ref (a0 24)) (C := RX10) (T := TX10) (N := 52) hx hb hts inlX10 hown hK hPD.1 0 rfl rfl 24 (by decide) (hts _ gw_652) (fun _ h9 => h9) rfl dX10_comesTo_23 ?_
    refine lv_iload hx hb dX10_comesTo_26 (lv_at hl 5 rfl) ?_
    obtain ⟨hi_1, h⟩ := ob h
    refine va_iald hx hb hK hPD.1 14 1 rfl rfl hi_1 dX10_comesTo_28 ?_
    refine lv_ldc (v := 1048576) hx hb hown (hts _ gw_572) dX10_comesTo_29 ?_
    refine lv_idiv hx hb dX10_comesTo_31 (by decide) ?_
    refine lv_istore (lv' := [(6, .int ((gx (A0 24) l5) / 1048576)), (0, .ref h0), (1, .int p1), (2, .int p2), (3, .int l3), (4, .int l4), (5, .int l5)]) hx hb dX10_comesTo_32 hl (by decide) rfl (fun ls hl => ?_)
    refine lv_aload_n hx hb dX10_comesTo_34 rfl (lv_at hl 1 rfl) ?_
    refine va_get (D := G.1) (ci := 10) (v := .ref (a0 24)) (C := RX10) (T := TX10) (N := 52) hx hb hts inlX10 hown hK hPD.1 0 rfl rfl 24 (by decide) (hts _ gw_652) (fun _ h9 => h9) rfl dX10_comesTo_35 ?_
    refine lv_iload hx hb dX10_comesTo_38 (lv_at hl 6 rfl) ?_
    obtain ⟨hi_2, h⟩ := ob h
    refine va_iald hx hb hK hPD.1 14 1 rfl rfl hi_2 dX10_comesTo_40 ?_
    refine lv_ldc (v := 1048576) hx hb hown (hts _ gw_572) dX10_comesTo_41 ?_
    refine lv_irem hx hb dX10_comesTo_43 (by decide) ?_
    refine lv_istore (lv' := [(7, .int (irm (gx (A0 24) l5) 1048576)), (6, .int ((gx (A0 24) l5) / 1048576)), (0, .ref h0), (1, .int p1), (2, .int p2), (3, .int l3), (4, .int l4), (5, .int l5)]) hx hb dX10_comesTo_44 hl (by decide) rfl (fun ls hl => ?_)
    refine lv_iload hx hb dX10_comesTo_46 (lv_at hl 7 rfl) ?_
    refine lv_iconst (v := 1) hx hb dX10_comesTo_48 (by decide) ?_
    refine lv_iadd hx hb dX10_comesTo_49 ?_
    refine lv_istore (lv' := [(5, .int (l5 + 1)), (7, .int (irm (gx (A0 24) l5) 1048576)), (6, .int ((gx (A0 24) l5) / 1048576)), (0, .ref h0), (1, .int p1), (2, .int p2), (3, .int l3), (4, .int l4)]) hx hb dX10_comesTo_50 hl (by decide) rfl (fun ls hl => ?_)
    refine lv_iload hx hb dX10_comesTo_52 (lv_at hl 2 rfl) ?_
    refine lv_if_eq (tgt := 63) hx hb dX10_comesTo_54 (by decide) (fun cc1 => ?_) (fun cc1 => ?_)
    · have h := (if_pos cc1).symm.trans h
      exact ww_f10_comesTo_b63 C0 hk16 A0 l3 l4 (l5 + 1) ((gx (A0 24) l5) / 1048576) (irm (gx (A0 24) l5) 1048576) h _ _ _ hPD hS (lv_sub hl [3, 4, 5, 6, 7, 0, 2, 1] rfl)
    · have h := (if_neg cc1).symm.trans h
      refine lv_iload hx hb dX10_comesTo_57 (lv_at hl 2 rfl) ?_
      refine lv_iconst (v := 1) hx hb dX10_comesTo_59 (by decide) ?_
      refine lv_icmp_ne (tgt := 93) hx hb dX10_comesTo_60 (by decide) (fun cc1 => ?_) (fun cc1 => ?_)
      · have h := (if_neg cc1).symm.trans h
        refine lv_iload hx hb dX10_comesTo_93 (lv_at hl 2 rfl) ?_
        refine lv_bipush (v := 10) hx hb dX10_comesTo_95 (by decide) ?_
        refine lv_icmp_ne (tgt := 121) hx hb dX10_comesTo_97 (by decide) (fun cc1 => ?_) (fun cc1 => ?_)
        · have h := (if_neg cc1).symm.trans h
          refine lv_iload hx hb dX10_comesTo_121 (lv_at hl 2 rfl) ?_
          refine lv_bipush (v := 11) hx hb dX10_comesTo_123 (by decide) ?_
          refine lv_icmp_eq (tgt := 135) hx hb dX10_comesTo_125 (by decide) (fun cc1 => ?_) (fun cc1 => ?_)
          · have h := (if_pos cc1).symm.trans h
            exact ww_f10_comesTo_b135 C0 hk16 A0 l3 l4 (l5 + 1) ((gx (A0 24) l5) / 1048576) (irm (gx (A0 24) l5) 1048576) h _ _ _ hPD hS (lv_sub hl [3, 4, 5, 6, 7, 0, 2, 1] rfl)
          · have h := (if_neg cc1).symm.trans h
            refine lv_iload hx hb dX10_comesTo_128 (lv_at hl 2 rfl) ?_
            refine lv_bipush (v := 12) hx hb dX10_comesTo_130 (by decide) ?_
            refine lv_icmp_ne (tgt := 175) hx hb dX10_comesTo_132 (by decide) (fun cc1 => ?_) (fun cc1 => ?_)
            · have h := (if_neg cc1).symm.trans h
              refine lv_iload_n hx hb dX10_comesTo_175 rfl (lv_at hl 6 rfl) ?_
              refine lv_iconst (v := 1) hx hb dX10_comesTo_176 (by decide) ?_
              refine lv_isub hx hb dX10_comesTo_177 ?_
              refine lv_istore_n (lv' := [(3, .int (l3 - 1)), (5, .int (l5 + 1)), (7, .int (irm (gx (A0 24) l5) 1048576)), (6, .int ((gx (A0 24) l5) / 1048576)), (0, .ref h0), (1, .int p1), (2, .int p2), (4, .int l4)]) hx hb dX10_comesTo_178 rfl hl (by decide) rfl (fun ls hl => ?_)
              refine lv_iload hx hb dX10_comesTo_179 (lv_at hl 3 rfl) ?_
              refine lv_iconst (v := 5) hx hb dX10_comesTo_181 (by decide) ?_
              refine lv_icmp_eq (tgt := 192) hx hb dX10_comesTo_182 (by decide) (fun cc1 => ?_) (fun cc1 => ?_)
              · have h := (if_pos cc1).symm.trans h
                refine lv_aload_n hx hb dX10_comesTo_192 rfl (lv_at hl 4 rfl) ?_
                refine va_get (D := G.1) (ci := 10) (v := .ref (a0 29)) (C := RX10) (T := TX10) (N := 52) hx hb hts inlX10 hown hK hPD.1 0 rfl rfl 29 (by decide) (hts _ gw_657) (fun _ h9 => h9) rfl dX10_comesTo_193 ?_
                refine lv_iload_n hx hb dX10_comesTo_196 rfl (lv_at hl 0 rfl) ?_
                obtain ⟨hi_9, h⟩ := ob h
                refine va_iald hx hb hK hPD.1 19 1 rfl rfl hi_9 dX10_comesTo_197 ?_
                refine lv_if_ne (tgt := 203) hx hb dX10_comesTo_198 (by decide) (fun cc1 => ?_) (fun cc1 => ?_)
                · have h := (if_neg cc1).symm.trans h
                  exact ww_f10_comesTo_b203 C0 hk16 A0 (l3 - 1) l4 (l5 + 1) ((gx (A0 24) l5) / 1048576) h _ _ _ hPD hS (lv_sub hl [4, 5, 6, 0, 7, 1, 3] rfl)
                · have h := (if_pos cc1).symm.trans h
                  refine lv_iconst (v := 0) hx hb dX10_comesTo_201 (by decide) ?_
                  obtain rfl := Option.some.inj h
                  exact eI C0 hPD.1 hPD.2 hS rfl dX10_comesTo_202
              · have h := (if_neg cc1).symm.trans h
                refine lv_iload hx hb dX10_comesTo_185 (lv_at hl 3 rfl) ?_
                refine lv_bipush (v := 6) hx hb dX10_comesTo_187 (by decide) ?_
                refine lv_icmp_ne (tgt := 203) hx hb dX10_comesTo_189 (by decide) (fun cc1 => ?_) (fun cc1 => ?_)
                · have h := (if_neg cc1).symm.trans h
                  exact ww_f10_comesTo_b203 C0 hk16 A0 (l3 - 1) l4 (l5 + 1) ((gx (A0 24) l5) / 1048576) h _ _ _ hPD hS (lv_sub hl [4, 5, 6, 0, 7, 1, 3] rfl)
                · have h := (if_pos cc1).symm.trans h
                  refine lv_aload_n hx hb dX10_comesTo_192 rfl (lv_at hl 4 rfl) ?_
                  refine va_get (D := G.1) (ci := 10) (v := .ref (a0 29)) (C := RX10) (T := TX10) (N := 52) hx hb hts inlX10 hown hK hPD.1 0 rfl rfl 29 (by decide) (hts _ gw_657) (fun _ h9 => h9) rfl dX10_comesTo_193 ?_
                  refine lv_iload_n hx hb dX10_comesTo_196 rfl (lv_at hl 0 rfl) ?_
                  obtain ⟨hi_15, h⟩ := ob h
                  refine va_iald hx hb hK hPD.1 19 1 rfl rfl hi_15 dX10_comesTo_197 ?_
                  refine lv_if_ne (tgt := 203) hx hb dX10_comesTo_198 (by decide) (fun cc1 => ?_) (fun cc1 => ?_)
                  · have h := (if_neg cc1).symm.trans h
                    exact ww_f10_comesTo_b203 C0 hk16 A0 (l3 - 1) l4 (l5 + 1) ((gx (A0 24) l5) / 1048576) h _ _ _ hPD hS (lv_sub hl [4, 5, 6, 0, 7, 1, 3] rfl)
                  · have h := (if_pos cc1).symm.trans h
                    refine lv_iconst (v := 0) hx hb dX10_comesTo_201 (by decide) ?_
                    obtain rfl := Option.some.inj h
                    exact eI C0 hPD.1 hPD.2 hS rfl dX10_comesTo_202
            · have h := (if_pos cc1).symm.trans h
              exact ww_f10_comesTo_b135 C0 hk16 A0 l3 l4 (l5 + 1) ((gx (A0 24) l5) / 1048576) (irm (gx (A0 24) l5) 1048576) h _ _ _ hPD hS (lv_sub hl [3, 4, 5, 6, 7, 0, 2, 1] rfl)
        · have h := (if_pos cc1).symm.trans h
          refine lv_aload_n hx hb dX10_comesTo_100 rfl (lv_at hl 3 rfl) ?_
          refine va_get (D := G.1) (ci := 10) (v := .ref (a0 29)) (C := RX10) (T := TX10) (N := 52) hx hb hts inlX10 hown hK hPD.1 0 rfl rfl 29 (by decide) (hts _ gw_657) (fun _ h9 => h9) rfl dX10_comesTo_101 ?_
          refine lv_iload_n hx hb dX10_comesTo_104 rfl (lv_at hl 6 rfl) ?_
          refine lv_iconst (v := 1) hx hb dX10_comesTo_105 (by decide) ?_
          refine lv_isub hx hb dX10_comesTo_106 ?_
          refine lv_iconst (v := 1) hx hb dX10_comesTo_107 (by decide) ?_
          refine lv_aload_n hx hb dX10_comesTo_108 rfl (lv_at hl 3 rfl) ?_
          refine va_get (D := G.1) (ci := 10) (v := .ref (a0 29)) (C := RX10) (T := TX10) (N := 52) hx hb hts inlX10 hown hK hPD.1 0 rfl rfl 29 (by decide) (hts _ gw_657) (fun _ h9 => h9) rfl dX10_comesTo_109 ?_
          refine lv_iload_n hx hb dX10_comesTo_112 rfl (lv_at hl 6 rfl) ?_
          refine lv_iconst (v := 1) hx hb dX10_comesTo_113 (by decide) ?_
          refine lv_isub hx hb dX10_comesTo_114 ?_
          obtain ⟨hi_16, h⟩ := ob h
          refine va_iald hx hb hK hPD.1 19 1 rfl rfl hi_16 dX10_comesTo_115 ?_
          refine lv_isub hx hb dX10_comesTo_116 ?_
          obtain ⟨hi_17, h⟩ := ob h
          refine va_iast hx hb hK hPD.1 hPD.2 hS 19 1 rfl rfl hi_17 dX10_comesTo_117 (fun H locs hP hD hS => ?_)
          obtain ⟨A0_18, eA0_18, h⟩ := lvl h
          have hPD : WD G DA (wX10 G h0 a0 f0 A0_18) H := by rw [eA0_18]; exact ⟨hP, hD⟩
          clear eA0_18 hP hD
          refine lv_goto (tgt := 230) hx hb dX10_comesTo_118 (by decide) ?_
          refine lv_goto (tgt := 16) hx hb dX10_comesTo_230 (by decide) ?_
          exact hk16 A0_18 l3 l4 (l5 + 1) h _ _ _ hPD hS (lv_sub hl [3, 4, 5, 6, 7, 0] rfl)
      · have h := (if_pos cc1).symm.trans h
        exact ww_f10_comesTo_b63 C0 hk16 A0 l3 l4 (l5 + 1) ((gx (A0 24) l5) / 1048576) (irm (gx (A0 24) l5) 1048576) h _ _ _ hPD hS (lv_sub hl [3, 4, 5, 6, 7, 0, 2, 1] rfl)
set_option maxRecDepth 100000 in
set_option maxHeartbeats 4000000 in
theorem ww_f10_comesTo_l16  (C0 : Cx cX10_comesTo 8 (some .int) RX10 p s m args meth c G DA) {h0 : Nat} {a0 : Nat → Nat} {f0 : Nat → Int32} {p1 : Int32} {p2 : Int32}   {res : Int32 × (Nat → Nat → Int32)}  : ∀ (n : Nat) (A0 : Nat → Nat → Int32) (l3 : Int32) (l4 : Int32) (l5 : Int32), f10_comesTo_l16 f0 p1 p2  n A0 l3 l4 l5 = some res → ∀ (H : Heap) (locs : List Loc) (ls : Array Slot), WD G DA (wX10 G h0 a0 f0 A0) H → va_S DA s.heap H locs → lv_has ls 8 [(0, .ref h0), (1, .int p1), (2, .int p2), (3, .int l3), (4, .int l4), (5, .int l5)] → W p l e rmX10_comesTo s m args below meth c H locs 0 0 (MQ below (QI G DA res.1 (wX10 G h0 a0 f0 res.2)) args s 0 0 DA) (F0 m 16 ls []) := by
  intro n
  induction n with
  | zero => intro A0 l3 l4 l5 h; cases h
  | succ n ih => intro A0 l3 l4 l5 h; exact ww_f10_comesTo_b16 C0  ih A0 l3 l4 l5 h
set_option maxRecDepth 100000 in
set_option maxHeartbeats 4000000 in
theorem kt_X10_comesTo (l : Launch) (G : Gp) (h0 : Nat) (a0 : Nat → Nat) (f0 : Nat → Int32) (A0 : Nat → Nat → Int32) (p1 : Int32) (p2 : Int32) : ∀ {r : Int32 × (Nat → Nat → Int32)}, f10_comesTo f0 A0 p1 p2 = some r → CtrI l yX10_comesTo cX10_comesTo 8 (some .int) rmX10_comesTo G [.ref h0, .int p1, .int p2] (wX10 G h0 a0 f0 A0) r.1 (wX10 G h0 a0 f0 r.2) := by
  intro res h
  refine ctrI_of (cc := cX10_comesTo) (maxL := 8) (ret := (some .int)) (by decide +kernel) rfl (Nat.le_of_ble_eq_true rfl) (fun p e s m below meth c DA C0 hP hD ls hl => ?_)
  have hPD : WD G DA (wX10 G h0 a0 f0 A0) s.heap := ⟨hP, hD⟩
  have hS : va_S DA s.heap s.heap [] := va_S.rf
  have hl : lv_has ls 8 [(0, .ref h0), (1, .int p1), (2, .int p2)] := hl
  obtain ⟨hx, hb, hml, hown, hts⟩ := C0.1
  have hK := C0.2.2.2.1
  unfold f10_comesTo at h
  refine lv_iconst (v := 0) hx hb dX10_comesTo_0 (by decide) ?_
  refine lv_istore_n (lv' := [(3, .int 0), (0, .ref h0), (1, .int p1), (2, .int p2)]) hx hb dX10_comesTo_1 rfl hl (by decide) rfl (fun ls hl => ?_)
  refine lv_sipush (v := 260) hx hb dX10_comesTo_2 (by decide) ?_
  refine lv_iload_n hx hb dX10_comesTo_5 rfl (lv_at hl 2 rfl) ?_
  refine lv_sipush (v := 260) hx hb dX10_comesTo_6 (by decide) ?_
  refine lv_idiv hx hb dX10_comesTo_9 (by decide) ?_
  refine lv_imul hx hb dX10_comesTo_10 ?_
  refine lv_istore (lv' := [(4, .int (260 * (p1 / 260))), (3, .int 0), (0, .ref h0), (1, .int p1), (2, .int p2)]) hx hb dX10_comesTo_11 hl (by decide) rfl (fun ls hl => ?_)
  refine lv_iload_n hx hb dX10_comesTo_13 rfl (lv_at hl 3 rfl) ?_
  refine lv_istore (lv' := [(5, .int p1), (4, .int (260 * (p1 / 260))), (3, .int 0), (0, .ref h0), (1, .int p1), (2, .int p2)]) hx hb dX10_comesTo_14 hl (by decide) rfl (fun ls hl => ?_)
  exact ww_f10_comesTo_l16 C0 NF A0 0 (260 * (p1 / 260)) p1 h _ _ _ hPD hS (lv_sub hl [3, 4, 5, 2, 1, 0] rfl)
abbrev rmX10_byLaw : Room := { frames := 2, cells := 0, slots := 0, locals := 49 }
set_option maxRecDepth 100000 in
set_option maxHeartbeats 4000000 in
theorem ww_f10_byLaw_b2  (C0 : Cx cX10_byLaw 5 (some .int) RX10 p s m args meth c G DA) {h0 : Nat} {a0 : Nat → Nat} {f0 : Nat → Int32} {p1 : Int32} {p2 : Int32}  {k2 : (Nat → Nat → Int32) → Int32 → Option (Int32 × (Nat → Nat → Int32))} {res : Int32 × (Nat → Nat → Int32)}  (hk2 : ∀ (A0 : Nat → Nat → Int32) (l3 : Int32), k2 A0 l3 = some res → ∀ (H : Heap) (locs : List Loc) (ls : Array Slot), WD G DA (wX10 G h0 a0 f0 A0) H → va_S DA s.heap H locs → lv_has ls 5 [(0, .ref h0), (1, .int p1), (2, .int p2), (3, .int l3)] → W p l e rmX10_byLaw s m args below meth c H locs 0 0 (MQ below (QI G DA res.1 (wX10 G h0 a0 f0 res.2)) args s 0 0 DA) (F0 m 2 ls [])) : ∀ (A0 : Nat → Nat → Int32) (l3 : Int32), f10_byLaw_b2 f0 p1 p2  k2 A0 l3 = some res → ∀ (H : Heap) (locs : List Loc) (ls : Array Slot), WD G DA (wX10 G h0 a0 f0 A0) H → va_S DA s.heap H locs → lv_has ls 5 [(0, .ref h0), (1, .int p1), (2, .int p2), (3, .int l3)] → W p l e rmX10_byLaw s m args below meth c H locs 0 0 (MQ below (QI G DA res.1 (wX10 G h0 a0 f0 res.2)) args s 0 0 DA) (F0 m 2 ls []) := by
  obtain ⟨hx, hb, hml, hown, hts⟩ := C0.1
  have hK := C0.2.2.2.1
  intro A0 l3 h _ _ _ hPD hS hl
  unfold f10_byLaw_b2 at h
  refine lv_iload_n hx hb dX10_byLaw_2 rfl (lv_at hl 3 rfl) ?_
  refine lv_aload_n hx hb dX10_byLaw_3 rfl (lv_at hl 0 rfl) ?_
  refine va_get (D := G.1) (ci := 10) (v := .int (f0 17)) (C := RX10) (T := TX10) (N := 52) hx hb hts inlX10 hown hK hPD.1 0 rfl rfl 17 (by decide) (hts _ gw_647) (fun _ h9 => h9) rfl dX10_byLaw_4 ?_
  refine lv_icmp_ge (tgt := 89) hx hb dX10_byLaw_7 (by decide) (fun cc1 => ?_) (fun cc1 => ?_)
  · have h := (if_pos cc1).symm.trans h
    refine lv_iconst (v := 0) hx hb dX10_byLaw_89 (by decide) ?_
    obtain rfl := Option.some.inj h
    exact eI C0 hPD.1 hPD.2 hS rfl dX10_byLaw_90
  · have h := (if_neg cc1).symm.trans h
    refine lv_aload_n hx hb dX10_byLaw_10 rfl (lv_at hl 0 rfl) ?_
    refine va_get (D := G.1) (ci := 10) (v := .ref (a0 25)) (C := RX10) (T := TX10) (N := 52) hx hb hts inlX10 hown hK hPD.1 0 rfl rfl 25 (by decide) (hts _ gw_648) (fun _ h9 => h9) rfl dX10_byLaw_11 ?_
    refine lv_iload_n hx hb dX10_byLaw_14 rfl (lv_at hl 3 rfl) ?_
    obtain ⟨hi_1, h⟩ := ob h
    refine va_iald hx hb hK hPD.1 15 1 rfl rfl hi_1 dX10_byLaw_15 ?_
    refine lv_iload_n hx hb dX10_byLaw_16 rfl (lv_at hl 1 rfl) ?_
    refine lv_icmp_ne (tgt := 83) hx hb dX10_byLaw_17 (by decide) (fun cc1 => ?_) (fun cc1 => ?_)
    · have h := (if_neg cc1).symm.trans h
      refine lv_iinc (v := l3 + 1) (lv' := [(3, .int (l3 + 1)), (0, .ref h0), (1, .int p1), (2, .int p2)]) hx hb dX10_byLaw_83 hl (k := 3) rfl rfl (by decide) rfl (fun ls hl => ?_)
      refine lv_goto (tgt := 2) hx hb dX10_byLaw_86 (by decide) ?_
      exact hk2 A0 (l3 + 1) h _ _ _ hPD hS (lv_sub hl [1, 2, 3, 0] rfl)
    · have h := (if_pos cc1).symm.trans h
      refine lv_aload_n hx hb dX10_byLaw_20 rfl (lv_at hl 0 rfl) ?_
      refine lv_aload_n hx hb dX10_byLaw_21 rfl (lv_at hl 0 rfl) ?_
      refine va_get (D := G.1) (ci := 10) (v := .ref (a0 27)) (C := RX10) (T := TX10) (N := 52) hx hb hts inlX10 hown hK hPD.1 0 rfl rfl 27 (by decide) (hts _ gw_650) (fun _ h9 => h9) rfl dX10_byLaw_22 ?_
      refine lv_iload_n hx hb dX10_byLaw_25 rfl (lv_at hl 3 rfl) ?_
      obtain ⟨hi_2, h⟩ := ob h
      refine va_iald hx hb hK hPD.1 17 1 rfl rfl hi_2 dX10_byLaw_26 ?_
      refine lv_aload_n hx hb dX10_byLaw_27 rfl (lv_at hl 0 rfl) ?_
      refine va_get (D := G.1) (ci := 10) (v := .ref (a0 28)) (C := RX10) (T := TX10) (N := 52) hx hb hts inlX10 hown hK hPD.1 0 rfl rfl 28 (by decide) (hts _ gw_651) (fun _ h9 => h9) rfl dX10_byLaw_28 ?_
      refine lv_iload_n hx hb dX10_byLaw_31 rfl (lv_at hl 3 rfl) ?_
      obtain ⟨hi_3, h⟩ := ob h
      refine va_iald hx hb hK hPD.1 18 1 rfl rfl hi_3 dX10_byLaw_32 ?_
      obtain ⟨q_4, hq_4, h⟩ := ob2 h
      refine kVI (As := [.int (gx (A0 27) l3), .int (gx (A0 28) l3)]) (rest := []) C0 (kt_X10_comesTo l G h0 a0 f0 A0 (gx (A0 27) l3) (gx (A0 28) l3) hq_4) gi_V_X10_237_X10_comesTo (n := 2) rfl (by decide +kernel) rfl ⟨rfl, rfl, Nat.le_of_ble_eq_true rfl, Nat.le_of_ble_eq_true rfl⟩ hPD hS 0 10 rfl rfl rfl [0, 1, 2, 3, 4, 5, 6, 7, 8, 9, 10, 11, 12, 13, 14, 15, 16, 17, 18, 19, 20, 21, 22, 23, 24, 25, 26, 27, 28, 29, 30, 31, 32, 33] [] [0, 1, 2, 3, 4, 5, 6, 7, 8, 9, 10, 11, 12, 13, 14, 15, 16, 17, 18, 19, 20, 21, 22, 23, 24, 25, 26, 27, 28, 29, 30, 31, 32, 33] (wN := (wX10 G h0 a0 f0 q_4.2)) rfl rfl rfl rfl rfl hl.1 (Nat.le_of_ble_eq_true rfl) dX10_byLaw_33 (fun H locs hPD hS => ?_)
      refine lv_iconst (v := 1) hx hb dX10_byLaw_36 (by decide) ?_
      refine lv_icmp_eq (tgt := 43) hx hb dX10_byLaw_37 (by decide) (fun cc1 => ?_) (fun cc1 => ?_)
      · have h := (if_pos cc1).symm.trans h
        refine lv_aload_n hx hb dX10_byLaw_43 rfl (lv_at hl 0 rfl) ?_
        refine lv_aload_n hx hb dX10_byLaw_44 rfl (lv_at hl 0 rfl) ?_
        refine va_get (D := G.1) (ci := 10) (v := .ref (a0 26)) (C := RX10) (T := TX10) (N := 52) hx hb hts inlX10 hown hK hPD.1 0 rfl rfl 26 (by decide) (hts _ gw_649) (fun _ h9 => h9) rfl dX10_byLaw_45 ?_
        refine lv_iload_n hx hb dX10_byLaw_48 rfl (lv_at hl 3 rfl) ?_
        obtain ⟨hi_5, h⟩ := ob h
        refine va_iald hx hb hK hPD.1 16 1 rfl rfl hi_5 dX10_byLaw_49 ?_
        refine lv_aload_n hx hb dX10_byLaw_50 rfl (lv_at hl 0 rfl) ?_
        refine va_get (D := G.1) (ci := 10) (v := .ref (a0 27)) (C := RX10) (T := TX10) (N := 52) hx hb hts inlX10 hown hK hPD.1 0 rfl rfl 27 (by decide) (hts _ gw_650) (fun _ h9 => h9) rfl dX10_byLaw_51 ?_
        refine lv_iload_n hx hb dX10_byLaw_54 rfl (lv_at hl 3 rfl) ?_
        obtain ⟨hi_6, h⟩ := ob h
        refine va_iald hx hb hK hPD.1 17 1 rfl rfl hi_6 dX10_byLaw_55 ?_
        obtain ⟨q_7, hq_7, h⟩ := ob2 h
        refine kVI (As := [.int (gx (q_4.2 26) l3), .int (gx (q_4.2 27) l3)]) (rest := []) C0 (kt_X10_comesTo l G h0 a0 f0 q_4.2 (gx (q_4.2 26) l3) (gx (q_4.2 27) l3) hq_7) gi_V_X10_237_X10_comesTo (n := 2) rfl (by decide +kernel) rfl ⟨rfl, rfl, Nat.le_of_ble_eq_true rfl, Nat.le_of_ble_eq_true rfl⟩ hPD hS 0 10 rfl rfl rfl [0, 1, 2, 3, 4, 5, 6, 7, 8, 9, 10, 11, 12, 13, 14, 15, 16, 17, 18, 19, 20, 21, 22, 23, 24, 25, 26, 27, 28, 29, 30, 31, 32, 33] [] [0, 1, 2, 3, 4, 5, 6, 7, 8, 9, 10, 11, 12, 13, 14, 15, 16, 17, 18, 19, 20, 21, 22, 23, 24, 25, 26, 27, 28, 29, 30, 31, 32, 33] (wN := (wX10 G h0 a0 f0 q_7.2)) rfl rfl rfl rfl rfl hl.1 (Nat.le_of_ble_eq_true rfl) dX10_byLaw_56 (fun H locs hPD hS => ?_)
        refine lv_istore (lv' := [(4, .int q_7.1), (0, .ref h0), (1, .int p1), (2, .int p2), (3, .int l3)]) hx hb dX10_byLaw_59 hl (by decide) rfl (fun ls hl => ?_)
        refine lv_iload hx hb dX10_byLaw_61 (lv_at hl 0 rfl) ?_
        refine lv_if_ge (tgt := 70) hx hb dX10_byLaw_63 (by decide) (fun cc1 => ?_) (fun cc1 => ?_)
        · have h := (if_pos cc1).symm.trans h
          refine lv_iload hx hb dX10_byLaw_70 (lv_at hl 0 rfl) ?_
          refine lv_iload_n hx hb dX10_byLaw_72 rfl (lv_at hl 3 rfl) ?_
          refine lv_icmp_le (tgt := 80) hx hb dX10_byLaw_73 (by decide) (fun cc1 => ?_) (fun cc1 => ?_)
          · have h := (if_pos cc1).symm.trans h
            refine lv_iload hx hb dX10_byLaw_80 (lv_at hl 0 rfl) ?_
            obtain rfl := Option.some.inj h
            exact eI C0 hPD.1 hPD.2 hS rfl dX10_byLaw_82
          · have h := (if_neg cc1).symm.trans h
            refine lv_iload_n hx hb dX10_byLaw_76 rfl (lv_at hl 3 rfl) ?_
            refine lv_goto (tgt := 82) hx hb dX10_byLaw_77 (by decide) ?_
            obtain rfl := Option.some.inj h
            exact eI C0 hPD.1 hPD.2 hS rfl dX10_byLaw_82
        · have h := (if_neg cc1).symm.trans h
          refine lv_iconst (v := 0) hx hb dX10_byLaw_66 (by decide) ?_
          refine lv_goto (tgt := 82) hx hb dX10_byLaw_67 (by decide) ?_
          obtain rfl := Option.some.inj h
          exact eI C0 hPD.1 hPD.2 hS rfl dX10_byLaw_82
      · have h := (if_neg cc1).symm.trans h
        refine lv_goto (tgt := 83) hx hb dX10_byLaw_40 (by decide) ?_
        refine lv_iinc (v := l3 + 1) (lv' := [(3, .int (l3 + 1)), (0, .ref h0), (1, .int p1), (2, .int p2)]) hx hb dX10_byLaw_83 hl (k := 3) rfl rfl (by decide) rfl (fun ls hl => ?_)
        refine lv_goto (tgt := 2) hx hb dX10_byLaw_86 (by decide) ?_
        exact hk2 q_4.2 (l3 + 1) h _ _ _ hPD hS (lv_sub hl [1, 2, 3, 0] rfl)
set_option maxRecDepth 100000 in
set_option maxHeartbeats 4000000 in
theorem ww_f10_byLaw_l2  (C0 : Cx cX10_byLaw 5 (some .int) RX10 p s m args meth c G DA) {h0 : Nat} {a0 : Nat → Nat} {f0 : Nat → Int32} {p1 : Int32} {p2 : Int32}   {res : Int32 × (Nat → Nat → Int32)}  : ∀ (n : Nat) (A0 : Nat → Nat → Int32) (l3 : Int32), f10_byLaw_l2 f0 p1 p2  n A0 l3 = some res → ∀ (H : Heap) (locs : List Loc) (ls : Array Slot), WD G DA (wX10 G h0 a0 f0 A0) H → va_S DA s.heap H locs → lv_has ls 5 [(0, .ref h0), (1, .int p1), (2, .int p2), (3, .int l3)] → W p l e rmX10_byLaw s m args below meth c H locs 0 0 (MQ below (QI G DA res.1 (wX10 G h0 a0 f0 res.2)) args s 0 0 DA) (F0 m 2 ls []) := by
  intro n
  induction n with
  | zero => intro A0 l3 h; cases h
  | succ n ih => intro A0 l3 h; exact ww_f10_byLaw_b2 C0  ih A0 l3 h
set_option maxRecDepth 100000 in
set_option maxHeartbeats 4000000 in
theorem kt_X10_byLaw (l : Launch) (G : Gp) (h0 : Nat) (a0 : Nat → Nat) (f0 : Nat → Int32) (A0 : Nat → Nat → Int32) (p1 : Int32) (p2 : Int32) : ∀ {r : Int32 × (Nat → Nat → Int32)}, f10_byLaw f0 A0 p1 p2 = some r → CtrI l yX10_byLaw cX10_byLaw 5 (some .int) rmX10_byLaw G [.ref h0, .int p1, .int p2] (wX10 G h0 a0 f0 A0) r.1 (wX10 G h0 a0 f0 r.2) := by
  intro res h
  refine ctrI_of (cc := cX10_byLaw) (maxL := 5) (ret := (some .int)) (by decide +kernel) rfl (Nat.le_of_ble_eq_true rfl) (fun p e s m below meth c DA C0 hP hD ls hl => ?_)
  have hPD : WD G DA (wX10 G h0 a0 f0 A0) s.heap := ⟨hP, hD⟩
  have hS : va_S DA s.heap s.heap [] := va_S.rf
  have hl : lv_has ls 5 [(0, .ref h0), (1, .int p1), (2, .int p2)] := hl
  obtain ⟨hx, hb, hml, hown, hts⟩ := C0.1
  have hK := C0.2.2.2.1
  unfold f10_byLaw at h
  refine lv_iconst (v := 0) hx hb dX10_byLaw_0 (by decide) ?_
  refine lv_istore_n (lv' := [(3, .int 0), (0, .ref h0), (1, .int p1), (2, .int p2)]) hx hb dX10_byLaw_1 rfl hl (by decide) rfl (fun ls hl => ?_)
  exact ww_f10_byLaw_l2 C0 NF A0 0 h _ _ _ hPD hS (lv_sub hl [1, 2, 3, 0] rfl)
abbrev rmX10_holdsAny : Room := { frames := 2, cells := 0, slots := 0, locals := 49 }
set_option maxRecDepth 100000 in
set_option maxHeartbeats 4000000 in
theorem ww_f10_holdsAny_b2  (C0 : Cx cX10_holdsAny 3 (some .boolean) RX10 p s m args meth c G DA) {h0 : Nat} {a0 : Nat → Nat} {f0 : Nat → Int32} {p1 : Int32}  {k2 : (Nat → Nat → Int32) → Int32 → Option (Int32 × (Nat → Nat → Int32))} {res : Int32 × (Nat → Nat → Int32)}  (hk2 : ∀ (A0 : Nat → Nat → Int32) (l2 : Int32), k2 A0 l2 = some res → ∀ (H : Heap) (locs : List Loc) (ls : Array Slot), WD G DA (wX10 G h0 a0 f0 A0) H → va_S DA s.heap H locs → lv_has ls 3 [(0, .ref h0), (1, .int p1), (2, .int l2)] → W p l e rmX10_holdsAny s m args below meth c H locs 0 0 (MQ below (QI G DA res.1 (wX10 G h0 a0 f0 res.2)) args s 0 0 DA) (F0 m 2 ls [])) : ∀ (A0 : Nat → Nat → Int32) (l2 : Int32), f10_holdsAny_b2 f0 p1  k2 A0 l2 = some res → ∀ (H : Heap) (locs : List Loc) (ls : Array Slot), WD G DA (wX10 G h0 a0 f0 A0) H → va_S DA s.heap H locs → lv_has ls 3 [(0, .ref h0), (1, .int p1), (2, .int l2)] → W p l e rmX10_holdsAny s m args below meth c H locs 0 0 (MQ below (QI G DA res.1 (wX10 G h0 a0 f0 res.2)) args s 0 0 DA) (F0 m 2 ls []) := by
  obtain ⟨hx, hb, hml, hown, hts⟩ := C0.1
  have hK := C0.2.2.2.1
  intro A0 l2 h _ _ _ hPD hS hl
  unfold f10_holdsAny_b2 at h
  refine lv_iload_n hx hb dX10_holdsAny_2 rfl (lv_at hl 2 rfl) ?_
  refine lv_aload_n hx hb dX10_holdsAny_3 rfl (lv_at hl 0 rfl) ?_
  refine va_get (D := G.1) (ci := 10) (v := .int (f0 17)) (C := RX10) (T := TX10) (N := 52) hx hb hts inlX10 hown hK hPD.1 0 rfl rfl 17 (by decide) (hts _ gw_647) (fun _ h9 => h9) rfl dX10_holdsAny_4 ?_
  refine lv_icmp_ge (tgt := 48) hx hb dX10_holdsAny_7 (by decide) (fun cc1 => ?_) (fun cc1 => ?_)
  · have h := (if_pos cc1).symm.trans h
    refine lv_iconst (v := 0) hx hb dX10_holdsAny_48 (by decide) ?_
    obtain rfl := Option.some.inj h
    exact eZ C0 hPD.1 hPD.2 hS rfl rfl dX10_holdsAny_49
  · have h := (if_neg cc1).symm.trans h
    refine lv_aload_n hx hb dX10_holdsAny_10 rfl (lv_at hl 0 rfl) ?_
    refine va_get (D := G.1) (ci := 10) (v := .ref (a0 25)) (C := RX10) (T := TX10) (N := 52) hx hb hts inlX10 hown hK hPD.1 0 rfl rfl 25 (by decide) (hts _ gw_648) (fun _ h9 => h9) rfl dX10_holdsAny_11 ?_
    refine lv_iload_n hx hb dX10_holdsAny_14 rfl (lv_at hl 2 rfl) ?_
    obtain ⟨hi_1, h⟩ := ob h
    refine va_iald hx hb hK hPD.1 15 1 rfl rfl hi_1 dX10_holdsAny_15 ?_
    refine lv_iload_n hx hb dX10_holdsAny_16 rfl (lv_at hl 1 rfl) ?_
    refine lv_icmp_ne (tgt := 42) hx hb dX10_holdsAny_17 (by decide) (fun cc1 => ?_) (fun cc1 => ?_)
    · have h := (if_neg cc1).symm.trans h
      refine lv_iinc (v := l2 + 1) (lv' := [(2, .int (l2 + 1)), (0, .ref h0), (1, .int p1)]) hx hb dX10_holdsAny_42 hl (k := 2) rfl rfl (by decide) rfl (fun ls hl => ?_)
      refine lv_goto (tgt := 2) hx hb dX10_holdsAny_45 (by decide) ?_
      exact hk2 A0 (l2 + 1) h _ _ _ hPD hS (lv_sub hl [1, 2, 0] rfl)
    · have h := (if_pos cc1).symm.trans h
      refine lv_aload_n hx hb dX10_holdsAny_20 rfl (lv_at hl 0 rfl) ?_
      refine lv_aload_n hx hb dX10_holdsAny_21 rfl (lv_at hl 0 rfl) ?_
      refine va_get (D := G.1) (ci := 10) (v := .ref (a0 27)) (C := RX10) (T := TX10) (N := 52) hx hb hts inlX10 hown hK hPD.1 0 rfl rfl 27 (by decide) (hts _ gw_650) (fun _ h9 => h9) rfl dX10_holdsAny_22 ?_
      refine lv_iload_n hx hb dX10_holdsAny_25 rfl (lv_at hl 2 rfl) ?_
      obtain ⟨hi_2, h⟩ := ob h
      refine va_iald hx hb hK hPD.1 17 1 rfl rfl hi_2 dX10_holdsAny_26 ?_
      refine lv_aload_n hx hb dX10_holdsAny_27 rfl (lv_at hl 0 rfl) ?_
      refine va_get (D := G.1) (ci := 10) (v := .ref (a0 28)) (C := RX10) (T := TX10) (N := 52) hx hb hts inlX10 hown hK hPD.1 0 rfl rfl 28 (by decide) (hts _ gw_651) (fun _ h9 => h9) rfl dX10_holdsAny_28 ?_
      refine lv_iload_n hx hb dX10_holdsAny_31 rfl (lv_at hl 2 rfl) ?_
      obtain ⟨hi_3, h⟩ := ob h
      refine va_iald hx hb hK hPD.1 18 1 rfl rfl hi_3 dX10_holdsAny_32 ?_
      obtain ⟨q_4, hq_4, h⟩ := ob2 h
      refine kVI (As := [.int (gx (A0 27) l2), .int (gx (A0 28) l2)]) (rest := []) C0 (kt_X10_comesTo l G h0 a0 f0 A0 (gx (A0 27) l2) (gx (A0 28) l2) hq_4) gi_V_X10_237_X10_comesTo (n := 2) rfl (by decide +kernel) rfl ⟨rfl, rfl, Nat.le_of_ble_eq_true rfl, Nat.le_of_ble_eq_true rfl⟩ hPD hS 0 10 rfl rfl rfl [0, 1, 2, 3, 4, 5, 6, 7, 8, 9, 10, 11, 12, 13, 14, 15, 16, 17, 18, 19, 20, 21, 22, 23, 24, 25, 26, 27, 28, 29, 30, 31, 32, 33] [] [0, 1, 2, 3, 4, 5, 6, 7, 8, 9, 10, 11, 12, 13, 14, 15, 16, 17, 18, 19, 20, 21, 22, 23, 24, 25, 26, 27, 28, 29, 30, 31, 32, 33] (wN := (wX10 G h0 a0 f0 q_4.2)) rfl rfl rfl rfl rfl hl.1 (Nat.le_of_ble_eq_true rfl) dX10_holdsAny_33 (fun H locs hPD hS => ?_)
      refine lv_iconst (v := 1) hx hb dX10_holdsAny_36 (by decide) ?_
      refine lv_icmp_ne (tgt := 42) hx hb dX10_holdsAny_37 (by decide) (fun cc1 => ?_) (fun cc1 => ?_)
      · have h := (if_neg cc1).symm.trans h
        refine lv_iinc (v := l2 + 1) (lv' := [(2, .int (l2 + 1)), (0, .ref h0), (1, .int p1)]) hx hb dX10_holdsAny_42 hl (k := 2) rfl rfl (by decide) rfl (fun ls hl => ?_)
        refine lv_goto (tgt := 2) hx hb dX10_holdsAny_45 (by decide) ?_
        exact hk2 q_4.2 (l2 + 1) h _ _ _ hPD hS (lv_sub hl [1, 2, 0] rfl)
      · have h := (if_pos cc1).symm.trans h
        refine lv_iconst (v := 1) hx hb dX10_holdsAny_40 (by decide) ?_
        obtain rfl := Option.some.inj h
        exact eZ C0 hPD.1 hPD.2 hS rfl rfl dX10_holdsAny_41
set_option maxRecDepth 100000 in
set_option maxHeartbeats 4000000 in
theorem ww_f10_holdsAny_l2  (C0 : Cx cX10_holdsAny 3 (some .boolean) RX10 p s m args meth c G DA) {h0 : Nat} {a0 : Nat → Nat} {f0 : Nat → Int32} {p1 : Int32}   {res : Int32 × (Nat → Nat → Int32)}  : ∀ (n : Nat) (A0 : Nat → Nat → Int32) (l2 : Int32), f10_holdsAny_l2 f0 p1  n A0 l2 = some res → ∀ (H : Heap) (locs : List Loc) (ls : Array Slot), WD G DA (wX10 G h0 a0 f0 A0) H → va_S DA s.heap H locs → lv_has ls 3 [(0, .ref h0), (1, .int p1), (2, .int l2)] → W p l e rmX10_holdsAny s m args below meth c H locs 0 0 (MQ below (QI G DA res.1 (wX10 G h0 a0 f0 res.2)) args s 0 0 DA) (F0 m 2 ls []) := by
  intro n
  induction n with
  | zero => intro A0 l2 h; cases h
  | succ n ih => intro A0 l2 h; exact ww_f10_holdsAny_b2 C0  ih A0 l2 h
set_option maxRecDepth 100000 in
set_option maxHeartbeats 4000000 in
theorem kt_X10_holdsAny (l : Launch) (G : Gp) (h0 : Nat) (a0 : Nat → Nat) (f0 : Nat → Int32) (A0 : Nat → Nat → Int32) (p1 : Int32) : ∀ {r : Int32 × (Nat → Nat → Int32)}, f10_holdsAny f0 A0 p1 = some r → CtrI l yX10_holdsAny cX10_holdsAny 3 (some .boolean) rmX10_holdsAny G [.ref h0, .int p1] (wX10 G h0 a0 f0 A0) r.1 (wX10 G h0 a0 f0 r.2) := by
  intro res h
  refine ctrI_of (cc := cX10_holdsAny) (maxL := 3) (ret := (some .boolean)) (by decide +kernel) rfl (Nat.le_of_ble_eq_true rfl) (fun p e s m below meth c DA C0 hP hD ls hl => ?_)
  have hPD : WD G DA (wX10 G h0 a0 f0 A0) s.heap := ⟨hP, hD⟩
  have hS : va_S DA s.heap s.heap [] := va_S.rf
  have hl : lv_has ls 3 [(0, .ref h0), (1, .int p1)] := hl
  obtain ⟨hx, hb, hml, hown, hts⟩ := C0.1
  have hK := C0.2.2.2.1
  unfold f10_holdsAny at h
  refine lv_iconst (v := 0) hx hb dX10_holdsAny_0 (by decide) ?_
  refine lv_istore_n (lv' := [(2, .int 0), (0, .ref h0), (1, .int p1)]) hx hb dX10_holdsAny_1 rfl hl (by decide) rfl (fun ls hl => ?_)
  exact ww_f10_holdsAny_l2 C0 NF A0 0 h _ _ _ hPD hS (lv_sub hl [1, 2, 0] rfl)
abbrev rmX10_menNear : Room := { frames := 3, cells := 0, slots := 0, locals := 66 }
set_option maxRecDepth 100000 in
set_option maxHeartbeats 4000000 in
theorem ww_f10_menNear_b4  (C0 : Cx cX10_menNear 4 (some .int) RX10 p s m args meth c G DA) {h0 : Nat} {a0 : Nat → Nat} {f0 : Nat → Int32} {A0 : Nat → Nat → Int32} {p1 : Int32}  {k4 : Int32 → Int32 → Option (Int32)} {res : Int32}  (hk4 : ∀ (l2 : Int32) (l3 : Int32), k4 l2 l3 = some res → ∀ (H : Heap) (locs : List Loc) (ls : Array Slot), WD G DA (wX10 G h0 a0 f0 A0) H → va_S DA s.heap H locs → lv_has ls 4 [(0, .ref h0), (1, .int p1), (2, .int l2), (3, .int l3)] → W p l e rmX10_menNear s m args below meth c H locs 0 0 (MQ below (QI G DA res (wX10 G h0 a0 f0 A0)) args s 0 0 DA) (F0 m 4 ls [])) : ∀ (l2 : Int32) (l3 : Int32), f10_menNear_b4 f0 A0 p1  k4 l2 l3 = some res → ∀ (H : Heap) (locs : List Loc) (ls : Array Slot), WD G DA (wX10 G h0 a0 f0 A0) H → va_S DA s.heap H locs → lv_has ls 4 [(0, .ref h0), (1, .int p1), (2, .int l2), (3, .int l3)] → W p l e rmX10_menNear s m args below meth c H locs 0 0 (MQ below (QI G DA res (wX10 G h0 a0 f0 A0)) args s 0 0 DA) (F0 m 4 ls []) := by
  obtain ⟨hx, hb, hml, hown, hts⟩ := C0.1
  have hK := C0.2.2.2.1
  intro l2 l3 h _ _ _ hPD hS hl
  unfold f10_menNear_b4 at h
  refine lv_iload_n hx hb dX10_menNear_4 rfl (lv_at hl 3 rfl) ?_
  refine lv_bipush (v := 16) hx hb dX10_menNear_5 (by decide) ?_
  refine lv_icmp_ge (tgt := 40) hx hb dX10_menNear_7 (by decide) (fun cc1 => ?_) (fun cc1 => ?_)
  · have h := (if_pos cc1).symm.trans h
    refine lv_iload_n hx hb dX10_menNear_40 rfl (lv_at hl 2 rfl) ?_
    obtain rfl := Option.some.inj h
    exact eI C0 hPD.1 hPD.2 hS rfl dX10_menNear_41
  · have h := (if_neg cc1).symm.trans h
    refine lv_aload_n hx hb dX10_menNear_10 rfl (lv_at hl 0 rfl) ?_
    refine va_get (D := G.1) (ci := 10) (v := .ref (a0 3)) (C := RX10) (T := TX10) (N := 52) hx hb hts inlX10 hown hK hPD.1 0 rfl rfl 3 (by decide) (hts _ gw_666) (fun _ h9 => h9) rfl dX10_menNear_11 ?_
    refine lv_iload_n hx hb dX10_menNear_14 rfl (lv_at hl 1 rfl) ?_
    obtain ⟨hi_1, h⟩ := ob h
    refine va_iald hx hb hK hPD.1 4 1 rfl rfl hi_1 dX10_menNear_15 ?_
    refine lv_iload_n hx hb dX10_menNear_16 rfl (lv_at hl 3 rfl) ?_
    refine kSI (As := [.int (gx (A0 3) p1), .int l3]) (rest := []) C0 (kt_X10_has l G  (gx (A0 3) p1) l3) gi_S_X10_120_X10_has (n := 2) rfl (by decide +kernel) ⟨rfl, rfl, Nat.le_of_ble_eq_true rfl, Nat.le_of_ble_eq_true rfl⟩ hPD hS [] [0, 1, 2, 3, 4, 5, 6, 7, 8, 9, 10, 11, 12, 13, 14, 15, 16, 17, 18, 19, 20, 21, 22, 23, 24, 25, 26, 27, 28, 29, 30, 31, 32, 33] [0, 1, 2, 3, 4, 5, 6, 7, 8, 9, 10, 11, 12, 13, 14, 15, 16, 17, 18, 19, 20, 21, 22, 23, 24, 25, 26, 27, 28, 29, 30, 31, 32, 33] (wN := (wX10 G h0 a0 f0 A0)) rfl rfl rfl rfl rfl hl.1 (Nat.le_of_ble_eq_true rfl) dX10_menNear_17 (fun H locs hPD hS => ?_)
    refine lv_if_eq (tgt := 34) hx hb dX10_menNear_20 (by decide) (fun cc1 => ?_) (fun cc1 => ?_)
    · have h := (if_pos cc1).symm.trans h
      refine lv_iinc (v := l3 + 1) (lv' := [(3, .int (l3 + 1)), (0, .ref h0), (1, .int p1), (2, .int l2)]) hx hb dX10_menNear_34 hl (k := 3) rfl rfl (by decide) rfl (fun ls hl => ?_)
      refine lv_goto (tgt := 4) hx hb dX10_menNear_37 (by decide) ?_
      exact hk4 l2 (l3 + 1) h _ _ _ hPD hS (lv_sub hl [1, 2, 3, 0] rfl)
    · have h := (if_neg cc1).symm.trans h
      refine lv_iload_n hx hb dX10_menNear_23 rfl (lv_at hl 2 rfl) ?_
      refine lv_aload_n hx hb dX10_menNear_24 rfl (lv_at hl 0 rfl) ?_
      refine lv_iload_n hx hb dX10_menNear_25 rfl (lv_at hl 3 rfl) ?_
      obtain ⟨q_2, hq_2, h⟩ := ob2 h
      refine kVI (As := [.int l3]) (rest := [.int l2]) C0 (kt_X10_menAt l G h0 a0 f0 A0 l3 hq_2) gi_V_X10_241_X10_menAt (n := 1) rfl (by decide +kernel) rfl ⟨rfl, rfl, Nat.le_of_ble_eq_true rfl, Nat.le_of_ble_eq_true rfl⟩ hPD hS 0 10 rfl rfl rfl [0, 1, 2, 3, 4, 5, 6, 7, 8, 9, 10, 11, 12, 13, 14, 15, 16, 17, 18, 19, 20, 21, 22, 23, 24, 25, 26, 27, 28, 29, 30, 31, 32, 33] [] [0, 1, 2, 3, 4, 5, 6, 7, 8, 9, 10, 11, 12, 13, 14, 15, 16, 17, 18, 19, 20, 21, 22, 23, 24, 25, 26, 27, 28, 29, 30, 31, 32, 33] (wN := (wX10 G h0 a0 f0 A0)) rfl rfl rfl rfl rfl hl.1 (Nat.le_of_ble_eq_true rfl) dX10_menNear_26 (fun H locs hPD hS => ?_)
      obtain ⟨q_3, hq_3, h⟩ := ob2 h
      refine kSI (As := [.int q_2]) (rest := [.int l2]) C0 (kt_X10_bits l G  q_2 hq_3) gi_S_X10_244_X10_bits (n := 1) rfl (by decide +kernel) ⟨rfl, rfl, Nat.le_of_ble_eq_true rfl, Nat.le_of_ble_eq_true rfl⟩ hPD hS [] [0, 1, 2, 3, 4, 5, 6, 7, 8, 9, 10, 11, 12, 13, 14, 15, 16, 17, 18, 19, 20, 21, 22, 23, 24, 25, 26, 27, 28, 29, 30, 31, 32, 33] [0, 1, 2, 3, 4, 5, 6, 7, 8, 9, 10, 11, 12, 13, 14, 15, 16, 17, 18, 19, 20, 21, 22, 23, 24, 25, 26, 27, 28, 29, 30, 31, 32, 33] (wN := (wX10 G h0 a0 f0 A0)) rfl rfl rfl rfl rfl hl.1 (Nat.le_of_ble_eq_true rfl) dX10_menNear_29 (fun H locs hPD hS => ?_)
      refine lv_iadd hx hb dX10_menNear_32 ?_
      refine lv_istore_n (lv' := [(2, .int (l2 + q_3)), (0, .ref h0), (1, .int p1), (3, .int l3)]) hx hb dX10_menNear_33 rfl hl (by decide) rfl (fun ls hl => ?_)
      refine lv_iinc (v := l3 + 1) (lv' := [(3, .int (l3 + 1)), (2, .int (l2 + q_3)), (0, .ref h0), (1, .int p1)]) hx hb dX10_menNear_34 hl (k := 3) rfl rfl (by decide) rfl (fun ls hl => ?_)
      refine lv_goto (tgt := 4) hx hb dX10_menNear_37 (by decide) ?_
      exact hk4 (l2 + q_3) (l3 + 1) h _ _ _ hPD hS (lv_sub hl [2, 3, 1, 0] rfl)
set_option maxRecDepth 100000 in
set_option maxHeartbeats 4000000 in
theorem ww_f10_menNear_l4  (C0 : Cx cX10_menNear 4 (some .int) RX10 p s m args meth c G DA) {h0 : Nat} {a0 : Nat → Nat} {f0 : Nat → Int32} {A0 : Nat → Nat → Int32} {p1 : Int32}   {res : Int32}  : ∀ (n : Nat) (l2 : Int32) (l3 : Int32), f10_menNear_l4 f0 A0 p1  n l2 l3 = some res → ∀ (H : Heap) (locs : List Loc) (ls : Array Slot), WD G DA (wX10 G h0 a0 f0 A0) H → va_S DA s.heap H locs → lv_has ls 4 [(0, .ref h0), (1, .int p1), (2, .int l2), (3, .int l3)] → W p l e rmX10_menNear s m args below meth c H locs 0 0 (MQ below (QI G DA res (wX10 G h0 a0 f0 A0)) args s 0 0 DA) (F0 m 4 ls []) := by
  intro n
  induction n with
  | zero => intro l2 l3 h; cases h
  | succ n ih => intro l2 l3 h; exact ww_f10_menNear_b4 C0  ih l2 l3 h
set_option maxRecDepth 100000 in
set_option maxHeartbeats 4000000 in
theorem kt_X10_menNear (l : Launch) (G : Gp) (h0 : Nat) (a0 : Nat → Nat) (f0 : Nat → Int32) (A0 : Nat → Nat → Int32) (p1 : Int32) : ∀ {r : Int32}, f10_menNear f0 A0 p1 = some r → CtrI l yX10_menNear cX10_menNear 4 (some .int) rmX10_menNear G [.ref h0, .int p1] (wX10 G h0 a0 f0 A0) r (wX10 G h0 a0 f0 A0) := by
  intro res h
  refine ctrI_of (cc := cX10_menNear) (maxL := 4) (ret := (some .int)) (by decide +kernel) rfl (Nat.le_of_ble_eq_true rfl) (fun p e s m below meth c DA C0 hP hD ls hl => ?_)
  have hPD : WD G DA (wX10 G h0 a0 f0 A0) s.heap := ⟨hP, hD⟩
  have hS : va_S DA s.heap s.heap [] := va_S.rf
  have hl : lv_has ls 4 [(0, .ref h0), (1, .int p1)] := hl
  obtain ⟨hx, hb, hml, hown, hts⟩ := C0.1
  have hK := C0.2.2.2.1
  unfold f10_menNear at h
  refine lv_iconst (v := 0) hx hb dX10_menNear_0 (by decide) ?_
  refine lv_istore_n (lv' := [(2, .int 0), (0, .ref h0), (1, .int p1)]) hx hb dX10_menNear_1 rfl hl (by decide) rfl (fun ls hl => ?_)
  refine lv_iconst (v := 0) hx hb dX10_menNear_2 (by decide) ?_
  refine lv_istore_n (lv' := [(3, .int 0), (2, .int 0), (0, .ref h0), (1, .int p1)]) hx hb dX10_menNear_3 rfl hl (by decide) rfl (fun ls hl => ?_)
  exact ww_f10_menNear_l4 C0 NF 0 0 h _ _ _ hPD hS (lv_sub hl [2, 3, 1, 0] rfl)
abbrev rmX10_feels : Room := { frames := 4, cells := 0, slots := 0, locals := 89 }
set_option maxRecDepth 100000 in
set_option maxHeartbeats 4000000 in
theorem kt_X10_feels (l : Launch) (G : Gp) (h0 : Nat) (a0 : Nat → Nat) (f0 : Nat → Int32) (A0 : Nat → Nat → Int32) (p1 : Int32) : ∀ {r : (Nat → Nat → Int32)}, f10_feels f0 A0 p1 = some r → CtrV l yX10_feels cX10_feels 2 none rmX10_feels G [.ref h0, .int p1] (wX10 G h0 a0 f0 A0) (wX10 G h0 a0 f0 r) := by
  intro res h
  refine ctrV_of (cc := cX10_feels) (maxL := 2) (ret := none) (by decide +kernel) rfl (Nat.le_of_ble_eq_true rfl) (fun p e s m below meth c DA C0 hP hD ls hl => ?_)
  have hPD : WD G DA (wX10 G h0 a0 f0 A0) s.heap := ⟨hP, hD⟩
  have hS : va_S DA s.heap s.heap [] := va_S.rf
  have hl : lv_has ls 2 [(0, .ref h0), (1, .int p1)] := hl
  obtain ⟨hx, hb, hml, hown, hts⟩ := C0.1
  have hK := C0.2.2.2.1
  unfold f10_feels at h
  refine lv_aload_n hx hb dX10_feels_0 rfl (lv_at hl 0 rfl) ?_
  refine va_get (D := G.1) (ci := 10) (v := .ref (a0 30)) (C := RX10) (T := TX10) (N := 52) hx hb hts inlX10 hown hK hPD.1 0 rfl rfl 30 (by decide) (hts _ gw_658) (fun _ h9 => h9) rfl dX10_feels_1 ?_
  refine lv_iconst (v := 0) hx hb dX10_feels_4 (by decide) ?_
  refine lv_iload_n hx hb dX10_feels_5 rfl (lv_at hl 1 rfl) ?_
  refine va_iast hx hb hK hPD.1 hPD.2 hS 20 1 rfl rfl (vin rfl) dX10_feels_6 (fun H locs hP hD hS => ?_)
  obtain ⟨A0_1, eA0_1, h⟩ := lvl h
  have hPD : WD G DA (wX10 G h0 a0 f0 A0_1) H := by rw [eA0_1]; exact ⟨hP, hD⟩
  clear eA0_1 hP hD
  refine lv_aload_n hx hb dX10_feels_7 rfl (lv_at hl 0 rfl) ?_
  refine va_get (D := G.1) (ci := 10) (v := .ref (a0 30)) (C := RX10) (T := TX10) (N := 52) hx hb hts inlX10 hown hK hPD.1 0 rfl rfl 30 (by decide) (hts _ gw_658) (fun _ h9 => h9) rfl dX10_feels_8 ?_
  refine lv_iconst (v := 1) hx hb dX10_feels_11 (by decide) ?_
  refine lv_aload_n hx hb dX10_feels_12 rfl (lv_at hl 0 rfl) ?_
  refine va_get (D := G.1) (ci := 10) (v := .ref (a0 0)) (C := RX10) (T := TX10) (N := 52) hx hb hts inlX10 hown hK hPD.1 0 rfl rfl 0 (by decide) (hts _ gw_539) (fun _ h9 => h9) rfl dX10_feels_13 ?_
  refine lv_iconst (v := 0) hx hb dX10_feels_16 (by decide) ?_
  refine lv_iload_n hx hb dX10_feels_17 rfl (lv_at hl 1 rfl) ?_
  refine lv_iadd hx hb dX10_feels_18 ?_
  obtain ⟨hi_2, h⟩ := ob h
  refine va_iald hx hb hK hPD.1 1 1 rfl rfl hi_2 dX10_feels_19 ?_
  refine va_iast hx hb hK hPD.1 hPD.2 hS 20 1 rfl rfl (vin rfl) dX10_feels_20 (fun H locs hP hD hS => ?_)
  obtain ⟨A0_3, eA0_3, h⟩ := lvl h
  have hPD : WD G DA (wX10 G h0 a0 f0 A0_3) H := by rw [eA0_3]; exact ⟨hP, hD⟩
  clear eA0_3 hP hD
  refine lv_aload_n hx hb dX10_feels_21 rfl (lv_at hl 0 rfl) ?_
  refine va_get (D := G.1) (ci := 10) (v := .ref (a0 30)) (C := RX10) (T := TX10) (N := 52) hx hb hts inlX10 hown hK hPD.1 0 rfl rfl 30 (by decide) (hts _ gw_658) (fun _ h9 => h9) rfl dX10_feels_22 ?_
  refine lv_iconst (v := 2) hx hb dX10_feels_25 (by decide) ?_
  refine lv_aload_n hx hb dX10_feels_26 rfl (lv_at hl 0 rfl) ?_
  refine va_get (D := G.1) (ci := 10) (v := .ref (a0 0)) (C := RX10) (T := TX10) (N := 52) hx hb hts inlX10 hown hK hPD.1 0 rfl rfl 0 (by decide) (hts _ gw_539) (fun _ h9 => h9) rfl dX10_feels_27 ?_
  refine lv_bipush (v := 16) hx hb dX10_feels_30 (by decide) ?_
  refine lv_iload_n hx hb dX10_feels_32 rfl (lv_at hl 1 rfl) ?_
  refine lv_iadd hx hb dX10_feels_33 ?_
  obtain ⟨hi_4, h⟩ := ob h
  refine va_iald hx hb hK hPD.1 1 1 rfl rfl hi_4 dX10_feels_34 ?_
  refine va_iast hx hb hK hPD.1 hPD.2 hS 20 1 rfl rfl (vin rfl) dX10_feels_35 (fun H locs hP hD hS => ?_)
  obtain ⟨A0_5, eA0_5, h⟩ := lvl h
  have hPD : WD G DA (wX10 G h0 a0 f0 A0_5) H := by rw [eA0_5]; exact ⟨hP, hD⟩
  clear eA0_5 hP hD
  refine lv_aload_n hx hb dX10_feels_36 rfl (lv_at hl 0 rfl) ?_
  refine va_get (D := G.1) (ci := 10) (v := .ref (a0 30)) (C := RX10) (T := TX10) (N := 52) hx hb hts inlX10 hown hK hPD.1 0 rfl rfl 30 (by decide) (hts _ gw_658) (fun _ h9 => h9) rfl dX10_feels_37 ?_
  refine lv_iconst (v := 3) hx hb dX10_feels_40 (by decide) ?_
  refine lv_aload_n hx hb dX10_feels_41 rfl (lv_at hl 0 rfl) ?_
  refine lv_iload_n hx hb dX10_feels_42 rfl (lv_at hl 1 rfl) ?_
  obtain ⟨q_6, hq_6, h⟩ := ob2 h
  refine kVI (As := [.int p1]) (rest := [.int 3, .ref (a0 30)]) C0 (kt_X10_menAt l G h0 a0 f0 A0_5 p1 hq_6) gi_V_X10_241_X10_menAt (n := 1) rfl (by decide +kernel) rfl ⟨rfl, rfl, Nat.le_of_ble_eq_true rfl, Nat.le_of_ble_eq_true rfl⟩ hPD hS 0 10 rfl rfl rfl [0, 1, 2, 3, 4, 5, 6, 7, 8, 9, 10, 11, 12, 13, 14, 15, 16, 17, 18, 19, 20, 21, 22, 23, 24, 25, 26, 27, 28, 29, 30, 31, 32, 33] [] [0, 1, 2, 3, 4, 5, 6, 7, 8, 9, 10, 11, 12, 13, 14, 15, 16, 17, 18, 19, 20, 21, 22, 23, 24, 25, 26, 27, 28, 29, 30, 31, 32, 33] (wN := (wX10 G h0 a0 f0 A0_5)) rfl rfl rfl rfl rfl hl.1 (Nat.le_of_ble_eq_true rfl) dX10_feels_43 (fun H locs hPD hS => ?_)
  obtain ⟨q_7, hq_7, h⟩ := ob2 h
  refine kSI (As := [.int q_6]) (rest := [.int 3, .ref (a0 30)]) C0 (kt_X10_bits l G  q_6 hq_7) gi_S_X10_244_X10_bits (n := 1) rfl (by decide +kernel) ⟨rfl, rfl, Nat.le_of_ble_eq_true rfl, Nat.le_of_ble_eq_true rfl⟩ hPD hS [] [0, 1, 2, 3, 4, 5, 6, 7, 8, 9, 10, 11, 12, 13, 14, 15, 16, 17, 18, 19, 20, 21, 22, 23, 24, 25, 26, 27, 28, 29, 30, 31, 32, 33] [0, 1, 2, 3, 4, 5, 6, 7, 8, 9, 10, 11, 12, 13, 14, 15, 16, 17, 18, 19, 20, 21, 22, 23, 24, 25, 26, 27, 28, 29, 30, 31, 32, 33] (wN := (wX10 G h0 a0 f0 A0_5)) rfl rfl rfl rfl rfl hl.1 (Nat.le_of_ble_eq_true rfl) dX10_feels_46 (fun H locs hPD hS => ?_)
  refine va_iast hx hb hK hPD.1 hPD.2 hS 20 1 rfl rfl (vin rfl) dX10_feels_49 (fun H locs hP hD hS => ?_)
  obtain ⟨A0_8, eA0_8, h⟩ := lvl h
  have hPD : WD G DA (wX10 G h0 a0 f0 A0_8) H := by rw [eA0_8]; exact ⟨hP, hD⟩
  clear eA0_8 hP hD
  refine lv_aload_n hx hb dX10_feels_50 rfl (lv_at hl 0 rfl) ?_
  refine va_get (D := G.1) (ci := 10) (v := .ref (a0 30)) (C := RX10) (T := TX10) (N := 52) hx hb hts inlX10 hown hK hPD.1 0 rfl rfl 30 (by decide) (hts _ gw_658) (fun _ h9 => h9) rfl dX10_feels_51 ?_
  refine lv_iconst (v := 4) hx hb dX10_feels_54 (by decide) ?_
  refine lv_aload_n hx hb dX10_feels_55 rfl (lv_at hl 0 rfl) ?_
  refine lv_iload_n hx hb dX10_feels_56 rfl (lv_at hl 1 rfl) ?_
  obtain ⟨q_9, hq_9, h⟩ := ob2 h
  refine kVI (As := [.int p1]) (rest := [.int 4, .ref (a0 30)]) C0 (kt_X10_menNear l G h0 a0 f0 A0_8 p1 hq_9) gi_V_X10_247_X10_menNear (n := 1) rfl (by decide +kernel) rfl ⟨rfl, rfl, Nat.le_of_ble_eq_true rfl, Nat.le_of_ble_eq_true rfl⟩ hPD hS 0 10 rfl rfl rfl [0, 1, 2, 3, 4, 5, 6, 7, 8, 9, 10, 11, 12, 13, 14, 15, 16, 17, 18, 19, 20, 21, 22, 23, 24, 25, 26, 27, 28, 29, 30, 31, 32, 33] [] [0, 1, 2, 3, 4, 5, 6, 7, 8, 9, 10, 11, 12, 13, 14, 15, 16, 17, 18, 19, 20, 21, 22, 23, 24, 25, 26, 27, 28, 29, 30, 31, 32, 33] (wN := (wX10 G h0 a0 f0 A0_8)) rfl rfl rfl rfl rfl hl.1 (Nat.le_of_ble_eq_true rfl) dX10_feels_57 (fun H locs hPD hS => ?_)
  refine va_iast hx hb hK hPD.1 hPD.2 hS 20 1 rfl rfl (vin rfl) dX10_feels_60 (fun H locs hP hD hS => ?_)
  obtain ⟨A0_10, eA0_10, h⟩ := lvl h
  have hPD : WD G DA (wX10 G h0 a0 f0 A0_10) H := by rw [eA0_10]; exact ⟨hP, hD⟩
  clear eA0_10 hP hD
  refine lv_aload_n hx hb dX10_feels_61 rfl (lv_at hl 0 rfl) ?_
  refine va_get (D := G.1) (ci := 10) (v := .ref (a0 30)) (C := RX10) (T := TX10) (N := 52) hx hb hts inlX10 hown hK hPD.1 0 rfl rfl 30 (by decide) (hts _ gw_658) (fun _ h9 => h9) rfl dX10_feels_62 ?_
  refine lv_iconst (v := 5) hx hb dX10_feels_65 (by decide) ?_
  refine lv_aload_n hx hb dX10_feels_66 rfl (lv_at hl 0 rfl) ?_
  refine va_get (D := G.1) (ci := 10) (v := .ref (a0 0)) (C := RX10) (T := TX10) (N := 52) hx hb hts inlX10 hown hK hPD.1 0 rfl rfl 0 (by decide) (hts _ gw_539) (fun _ h9 => h9) rfl dX10_feels_67 ?_
  refine lv_bipush (v := 32) hx hb dX10_feels_70 (by decide) ?_
  refine lv_iload_n hx hb dX10_feels_72 rfl (lv_at hl 1 rfl) ?_
  refine lv_iadd hx hb dX10_feels_73 ?_
  obtain ⟨hi_11, h⟩ := ob h
  refine va_iald hx hb hK hPD.1 1 1 rfl rfl hi_11 dX10_feels_74 ?_
  refine va_iast hx hb hK hPD.1 hPD.2 hS 20 1 rfl rfl (vin rfl) dX10_feels_75 (fun H locs hP hD hS => ?_)
  obtain ⟨A0_12, eA0_12, h⟩ := lvl h
  have hPD : WD G DA (wX10 G h0 a0 f0 A0_12) H := by rw [eA0_12]; exact ⟨hP, hD⟩
  clear eA0_12 hP hD
  refine lv_aload_n hx hb dX10_feels_76 rfl (lv_at hl 0 rfl) ?_
  refine va_get (D := G.1) (ci := 10) (v := .ref (a0 30)) (C := RX10) (T := TX10) (N := 52) hx hb hts inlX10 hown hK hPD.1 0 rfl rfl 30 (by decide) (hts _ gw_658) (fun _ h9 => h9) rfl dX10_feels_77 ?_
  refine lv_bipush (v := 6) hx hb dX10_feels_80 (by decide) ?_
  refine lv_aload_n hx hb dX10_feels_82 rfl (lv_at hl 0 rfl) ?_
  refine va_get (D := G.1) (ci := 10) (v := .ref (a0 0)) (C := RX10) (T := TX10) (N := 52) hx hb hts inlX10 hown hK hPD.1 0 rfl rfl 0 (by decide) (hts _ gw_539) (fun _ h9 => h9) rfl dX10_feels_83 ?_
  refine lv_bipush (v := 74) hx hb dX10_feels_86 (by decide) ?_
  refine va_iald hx hb hK hPD.1 1 1 rfl rfl (vin rfl) dX10_feels_88 ?_
  refine lv_bipush (v := 24) hx hb dX10_feels_89 (by decide) ?_
  refine lv_irem hx hb dX10_feels_91 (by decide) ?_
  refine va_iast hx hb hK hPD.1 hPD.2 hS 20 1 rfl rfl (vin rfl) dX10_feels_92 (fun H locs hP hD hS => ?_)
  obtain ⟨A0_13, eA0_13, h⟩ := lvl h
  have hPD : WD G DA (wX10 G h0 a0 f0 A0_13) H := by rw [eA0_13]; exact ⟨hP, hD⟩
  clear eA0_13 hP hD
  refine lv_aload_n hx hb dX10_feels_93 rfl (lv_at hl 0 rfl) ?_
  refine va_get (D := G.1) (ci := 10) (v := .ref (a0 30)) (C := RX10) (T := TX10) (N := 52) hx hb hts inlX10 hown hK hPD.1 0 rfl rfl 30 (by decide) (hts _ gw_658) (fun _ h9 => h9) rfl dX10_feels_94 ?_
  refine lv_bipush (v := 7) hx hb dX10_feels_97 (by decide) ?_
  refine lv_aload_n hx hb dX10_feels_99 rfl (lv_at hl 0 rfl) ?_
  refine va_get (D := G.1) (ci := 10) (v := .ref (a0 0)) (C := RX10) (T := TX10) (N := 52) hx hb hts inlX10 hown hK hPD.1 0 rfl rfl 0 (by decide) (hts _ gw_539) (fun _ h9 => h9) rfl dX10_feels_100 ?_
  refine lv_bipush (v := 73) hx hb dX10_feels_103 (by decide) ?_
  refine va_iald hx hb hK hPD.1 1 1 rfl rfl (vin rfl) dX10_feels_105 ?_
  refine va_iast hx hb hK hPD.1 hPD.2 hS 20 1 rfl rfl (vin rfl) dX10_feels_106 (fun H locs hP hD hS => ?_)
  obtain ⟨A0_14, eA0_14, h⟩ := lvl h
  have hPD : WD G DA (wX10 G h0 a0 f0 A0_14) H := by rw [eA0_14]; exact ⟨hP, hD⟩
  clear eA0_14 hP hD
  obtain rfl := Option.some.inj h
  exact eV C0 hPD.1 hPD.2 hS dX10_feels_107
end WALK
