section WALK
variable {p : Program} {l : Launch} {e : Env} {s : State} {m : MethodId} {args : Array Value} {below : List Frame} {meth : Method} {c : Code} {G : Gp} {DA : Nat → Prop}
set_option maxRecDepth 100000 in
set_option maxHeartbeats 4000000 in
theorem ww_f9_judgesFor_l6  (C0 : Cx cX9_judgesFor 6 (some .int) RX9 p s m args meth c G DA) {h0 : Nat} {a0 : Nat → Nat} {wk : Option Nat} {f0 : Nat → Int32} {A0 : Nat → Nat → Int32} {p1 : Int32} {p2 : Int32} {p3 : Int32}   {res : Int32}  : ∀ (n : Nat) (l4 : Int32) (l5 : Int32), f9_judgesFor_l6 f0 A0 p1 p2 p3  n l4 l5 = some res → ∀ (H : Heap) (locs : List Loc) (ls : Array Slot), WD G DA (wX9 G h0 a0 wk f0 A0) H → va_S DA s.heap H locs → lv_has ls 6 [(0, .ref h0), (1, .int p1), (2, .int p2), (3, .int p3), (4, .int l4), (5, .int l5)] → W p l e rmX9_judgesFor s m args below meth c H locs 0 0 (MQ below (QI G DA res (wX9 G h0 a0 wk f0 A0)) args s 0 0 DA) (F0 m 6 ls []) := by
  intro n
  induction n with
  | zero => intro l4 l5 h; cases h
  | succ n ih => intro l4 l5 h; exact ww_f9_judgesFor_b6 C0  ih l4 l5 h
set_option maxRecDepth 100000 in
set_option maxHeartbeats 4000000 in
theorem kt_X9_judgesFor (l : Launch) (G : Gp) (h0 : Nat) (a0 : Nat → Nat) (wk : Option Nat) (f0 : Nat → Int32) (A0 : Nat → Nat → Int32) (p1 : Int32) (p2 : Int32) (p3 : Int32) : ∀ {r : Int32}, f9_judgesFor f0 A0 p1 p2 p3 = some r → CtrI l yX9_judgesFor cX9_judgesFor 6 (some .int) rmX9_judgesFor G [.ref h0, .int p1, .int p2, .int p3] (wX9 G h0 a0 wk f0 A0) r (wX9 G h0 a0 wk f0 A0) := by
  intro res h
  refine ctrI_of (cc := cX9_judgesFor) (maxL := 6) (ret := (some .int)) (by decide +kernel) rfl (Nat.le_of_ble_eq_true rfl) (fun p e s m below meth c DA C0 hP hD ls hl => ?_)
  have hPD : WD G DA (wX9 G h0 a0 wk f0 A0) s.heap := ⟨hP, hD⟩
  have hS : va_S DA s.heap s.heap [] := va_S.rf
  have hl : lv_has ls 6 [(0, .ref h0), (1, .int p1), (2, .int p2), (3, .int p3)] := hl
  obtain ⟨hx, hb, hml, hown, hts⟩ := C0.1
  have hK := C0.2.2.2.1
  unfold f9_judgesFor at h
  refine lv_iconst (v := 0) hx hb dX9_judgesFor_0 (by decide) ?_
  refine lv_istore (lv' := [(4, .int 0), (0, .ref h0), (1, .int p1), (2, .int p2), (3, .int p3)]) hx hb dX9_judgesFor_1 hl (by decide) rfl (fun ls hl => ?_)
  refine lv_iconst (v := 0) hx hb dX9_judgesFor_3 (by decide) ?_
  refine lv_istore (lv' := [(5, .int 0), (4, .int 0), (0, .ref h0), (1, .int p1), (2, .int p2), (3, .int p3)]) hx hb dX9_judgesFor_4 hl (by decide) rfl (fun ls hl => ?_)
  exact ww_f9_judgesFor_l6 C0 NF 0 0 h _ _ _ hPD hS (lv_sub hl [2, 3, 4, 5, 1, 0] rfl)
abbrev rmX9_beatsAllOthers : Room := { frames := 2, cells := 0, slots := 0, locals := 46 }
set_option maxRecDepth 100000 in
set_option maxHeartbeats 4000000 in
theorem ww_f9_beatsAllOthers_b13  (C0 : Cx cX9_beatsAllOthers 6 (some .int) RX9 p s m args meth c G DA) {h0 : Nat} {a0 : Nat → Nat} {wk : Option Nat} {f0 : Nat → Int32} {A0 : Nat → Nat → Int32} {p1 : Int32} {p2 : Int32}  {k2 : Int32 → Option (Int32)} {k13 : Int32 → Int32 → Int32 → Option (Int32)} {res : Int32} (hk2 : ∀ (l3 : Int32), k2 l3 = some res → ∀ (H : Heap) (locs : List Loc) (ls : Array Slot), WD G DA (wX9 G h0 a0 wk f0 A0) H → va_S DA s.heap H locs → lv_has ls 6 [(0, .ref h0), (1, .int p1), (2, .int p2), (3, .int l3)] → W p l e rmX9_beatsAllOthers s m args below meth c H locs 0 0 (MQ below (QI G DA res (wX9 G h0 a0 wk f0 A0)) args s 0 0 DA) (F0 m 2 ls [])) (hk13 : ∀ (l3 : Int32) (l4 : Int32) (l5 : Int32), k13 l3 l4 l5 = some res → ∀ (H : Heap) (locs : List Loc) (ls : Array Slot), WD G DA (wX9 G h0 a0 wk f0 A0) H → va_S DA s.heap H locs → lv_has ls 6 [(0, .ref h0), (1, .int p1), (2, .int p2), (3, .int l3), (4, .int l4), (5, .int l5)] → W p l e rmX9_beatsAllOthers s m args below meth c H locs 0 0 (MQ below (QI G DA res (wX9 G h0 a0 wk f0 A0)) args s 0 0 DA) (F0 m 13 ls [])) : ∀ (l3 : Int32) (l4 : Int32) (l5 : Int32), f9_beatsAllOthers_b13 f0 A0 p1 p2 k2 k13 l3 l4 l5 = some res → ∀ (H : Heap) (locs : List Loc) (ls : Array Slot), WD G DA (wX9 G h0 a0 wk f0 A0) H → va_S DA s.heap H locs → lv_has ls 6 [(0, .ref h0), (1, .int p1), (2, .int p2), (3, .int l3), (4, .int l4), (5, .int l5)] → W p l e rmX9_beatsAllOthers s m args below meth c H locs 0 0 (MQ below (QI G DA res (wX9 G h0 a0 wk f0 A0)) args s 0 0 DA) (F0 m 13 ls []) := by
  obtain ⟨hx, hb, hml, hown, hts⟩ := C0.1
  have hK := C0.2.2.2.1
  intro l3 l4 l5 h _ _ _ hPD hS hl
  unfold f9_beatsAllOthers_b13 at h
  refine lv_iload hx hb dX9_beatsAllOthers_13 (lv_at hl 5 rfl) ?_
  refine lv_iload_n hx hb dX9_beatsAllOthers_15 rfl (lv_at hl 1 rfl) ?_
  refine lv_icmp_ge (tgt := 48) hx hb dX9_beatsAllOthers_16 (by decide) (fun cc1 => ?_) (fun cc1 => ?_)
  · have h := (if_pos cc1).symm.trans h
    refine lv_iload hx hb dX9_beatsAllOthers_48 (lv_at hl 4 rfl) ?_
    refine lv_iload_n hx hb dX9_beatsAllOthers_50 rfl (lv_at hl 1 rfl) ?_
    refine lv_iconst (v := 1) hx hb dX9_beatsAllOthers_51 (by decide) ?_
    refine lv_isub hx hb dX9_beatsAllOthers_52 ?_
    refine lv_icmp_ne (tgt := 58) hx hb dX9_beatsAllOthers_53 (by decide) (fun cc1 => ?_) (fun cc1 => ?_)
    · have h := (if_neg cc1).symm.trans h
      refine lv_iinc (v := l3 + 1) (lv' := [(3, .int (l3 + 1)), (0, .ref h0), (1, .int p1), (2, .int p2), (4, .int l4), (5, .int l5)]) hx hb dX9_beatsAllOthers_58 hl (k := 3) rfl rfl (by decide) rfl (fun ls hl => ?_)
      refine lv_goto (tgt := 2) hx hb dX9_beatsAllOthers_61 (by decide) ?_
      exact hk2 (l3 + 1) h _ _ _ hPD hS (lv_sub hl [1, 2, 3, 0] rfl)
    · have h := (if_pos cc1).symm.trans h
      refine lv_iload_n hx hb dX9_beatsAllOthers_56 rfl (lv_at hl 3 rfl) ?_
      obtain rfl := Option.some.inj h
      exact eI C0 hPD.1 hPD.2 hS rfl dX9_beatsAllOthers_57
  · have h := (if_neg cc1).symm.trans h
    refine lv_iload_n hx hb dX9_beatsAllOthers_19 rfl (lv_at hl 3 rfl) ?_
    refine lv_iload hx hb dX9_beatsAllOthers_20 (lv_at hl 5 rfl) ?_
    refine lv_icmp_eq (tgt := 42) hx hb dX9_beatsAllOthers_22 (by decide) (fun cc1 => ?_) (fun cc1 => ?_)
    · have h := (if_pos cc1).symm.trans h
      refine lv_iinc (v := l5 + 1) (lv' := [(5, .int (l5 + 1)), (0, .ref h0), (1, .int p1), (2, .int p2), (3, .int l3), (4, .int l4)]) hx hb dX9_beatsAllOthers_42 hl (k := 5) rfl rfl (by decide) rfl (fun ls hl => ?_)
      refine lv_goto (tgt := 13) hx hb dX9_beatsAllOthers_45 (by decide) ?_
      exact hk13 l3 l4 (l5 + 1) h _ _ _ hPD hS (lv_sub hl [1, 2, 3, 4, 5, 0] rfl)
    · have h := (if_neg cc1).symm.trans h
      refine lv_iconst (v := 2) hx hb dX9_beatsAllOthers_25 (by decide) ?_
      refine lv_aload_n hx hb dX9_beatsAllOthers_26 rfl (lv_at hl 0 rfl) ?_
      refine lv_iload_n hx hb dX9_beatsAllOthers_27 rfl (lv_at hl 3 rfl) ?_
      refine lv_iload hx hb dX9_beatsAllOthers_28 (lv_at hl 5 rfl) ?_
      refine lv_iload_n hx hb dX9_beatsAllOthers_30 rfl (lv_at hl 2 rfl) ?_
      obtain ⟨q_1, hq_1, h⟩ := ob2 h
      refine kVI (As := [.int l3, .int l5, .int p2]) (rest := [.int 2]) C0 (kt_X9_judgesFor l G h0 a0 wk f0 A0 l3 l5 p2 hq_1) gi_V_X9_293_X9_judgesFor (n := 3) rfl (by decide +kernel) rfl ⟨rfl, rfl, Nat.le_of_ble_eq_true rfl, Nat.le_of_ble_eq_true rfl⟩ hPD hS 0 9 rfl rfl rfl [0, 1] [] [0, 1] (wr := ([] : va_W)) (wN := (wX9 G h0 a0 wk f0 A0)) rfl rfl rfl rfl rfl hl.1 (Nat.le_of_ble_eq_true rfl) dX9_beatsAllOthers_31 (fun H locs hPD hS => ?_)
      refine lv_imul hx hb dX9_beatsAllOthers_34 ?_
      refine lv_iload_n hx hb dX9_beatsAllOthers_35 rfl (lv_at hl 2 rfl) ?_
      refine lv_icmp_le (tgt := 42) hx hb dX9_beatsAllOthers_36 (by decide) (fun cc1 => ?_) (fun cc1 => ?_)
      · have h := (if_pos cc1).symm.trans h
        refine lv_iinc (v := l5 + 1) (lv' := [(5, .int (l5 + 1)), (0, .ref h0), (1, .int p1), (2, .int p2), (3, .int l3), (4, .int l4)]) hx hb dX9_beatsAllOthers_42 hl (k := 5) rfl rfl (by decide) rfl (fun ls hl => ?_)
        refine lv_goto (tgt := 13) hx hb dX9_beatsAllOthers_45 (by decide) ?_
        exact hk13 l3 l4 (l5 + 1) h _ _ _ hPD hS (lv_sub hl [1, 2, 3, 4, 5, 0] rfl)
      · have h := (if_neg cc1).symm.trans h
        refine lv_iinc (v := l4 + 1) (lv' := [(4, .int (l4 + 1)), (0, .ref h0), (1, .int p1), (2, .int p2), (3, .int l3), (5, .int l5)]) hx hb dX9_beatsAllOthers_39 hl (k := 4) rfl rfl (by decide) rfl (fun ls hl => ?_)
        refine lv_iinc (v := l5 + 1) (lv' := [(5, .int (l5 + 1)), (4, .int (l4 + 1)), (0, .ref h0), (1, .int p1), (2, .int p2), (3, .int l3)]) hx hb dX9_beatsAllOthers_42 hl (k := 5) rfl rfl (by decide) rfl (fun ls hl => ?_)
        refine lv_goto (tgt := 13) hx hb dX9_beatsAllOthers_45 (by decide) ?_
        exact hk13 l3 (l4 + 1) (l5 + 1) h _ _ _ hPD hS (lv_sub hl [2, 3, 4, 5, 1, 0] rfl)
set_option maxRecDepth 100000 in
set_option maxHeartbeats 4000000 in
theorem ww_f9_beatsAllOthers_l13  (C0 : Cx cX9_beatsAllOthers 6 (some .int) RX9 p s m args meth c G DA) {h0 : Nat} {a0 : Nat → Nat} {wk : Option Nat} {f0 : Nat → Int32} {A0 : Nat → Nat → Int32} {p1 : Int32} {p2 : Int32}  {k2 : Int32 → Option (Int32)} {res : Int32} (hk2 : ∀ (l3 : Int32), k2 l3 = some res → ∀ (H : Heap) (locs : List Loc) (ls : Array Slot), WD G DA (wX9 G h0 a0 wk f0 A0) H → va_S DA s.heap H locs → lv_has ls 6 [(0, .ref h0), (1, .int p1), (2, .int p2), (3, .int l3)] → W p l e rmX9_beatsAllOthers s m args below meth c H locs 0 0 (MQ below (QI G DA res (wX9 G h0 a0 wk f0 A0)) args s 0 0 DA) (F0 m 2 ls [])) : ∀ (n : Nat) (l3 : Int32) (l4 : Int32) (l5 : Int32), f9_beatsAllOthers_l13 f0 A0 p1 p2 k2 n l3 l4 l5 = some res → ∀ (H : Heap) (locs : List Loc) (ls : Array Slot), WD G DA (wX9 G h0 a0 wk f0 A0) H → va_S DA s.heap H locs → lv_has ls 6 [(0, .ref h0), (1, .int p1), (2, .int p2), (3, .int l3), (4, .int l4), (5, .int l5)] → W p l e rmX9_beatsAllOthers s m args below meth c H locs 0 0 (MQ below (QI G DA res (wX9 G h0 a0 wk f0 A0)) args s 0 0 DA) (F0 m 13 ls []) := by
  intro n
  induction n with
  | zero => intro l3 l4 l5 h; cases h
  | succ n ih => intro l3 l4 l5 h; exact ww_f9_beatsAllOthers_b13 C0 hk2 ih l3 l4 l5 h
set_option maxRecDepth 100000 in
set_option maxHeartbeats 4000000 in
theorem ww_f9_beatsAllOthers_b2  (C0 : Cx cX9_beatsAllOthers 6 (some .int) RX9 p s m args meth c G DA) {h0 : Nat} {a0 : Nat → Nat} {wk : Option Nat} {f0 : Nat → Int32} {A0 : Nat → Nat → Int32} {p1 : Int32} {p2 : Int32}  {k2 : Int32 → Option (Int32)} {res : Int32}  (hk2 : ∀ (l3 : Int32), k2 l3 = some res → ∀ (H : Heap) (locs : List Loc) (ls : Array Slot), WD G DA (wX9 G h0 a0 wk f0 A0) H → va_S DA s.heap H locs → lv_has ls 6 [(0, .ref h0), (1, .int p1), (2, .int p2), (3, .int l3)] → W p l e rmX9_beatsAllOthers s m args below meth c H locs 0 0 (MQ below (QI G DA res (wX9 G h0 a0 wk f0 A0)) args s 0 0 DA) (F0 m 2 ls [])) : ∀ (l3 : Int32), f9_beatsAllOthers_b2 f0 A0 p1 p2  k2 l3 = some res → ∀ (H : Heap) (locs : List Loc) (ls : Array Slot), WD G DA (wX9 G h0 a0 wk f0 A0) H → va_S DA s.heap H locs → lv_has ls 6 [(0, .ref h0), (1, .int p1), (2, .int p2), (3, .int l3)] → W p l e rmX9_beatsAllOthers s m args below meth c H locs 0 0 (MQ below (QI G DA res (wX9 G h0 a0 wk f0 A0)) args s 0 0 DA) (F0 m 2 ls []) := by
  obtain ⟨hx, hb, hml, hown, hts⟩ := C0.1
  have hK := C0.2.2.2.1
  intro l3 h _ _ _ hPD hS hl
  unfold f9_beatsAllOthers_b2 at h
  refine lv_iload_n hx hb dX9_beatsAllOthers_2 rfl (lv_at hl 3 rfl) ?_
  refine lv_iload_n hx hb dX9_beatsAllOthers_3 rfl (lv_at hl 1 rfl) ?_
  refine lv_icmp_ge (tgt := 64) hx hb dX9_beatsAllOthers_4 (by decide) (fun cc1 => ?_) (fun cc1 => ?_)
  · have h := (if_pos cc1).symm.trans h
    refine lv_bipush (v := (-2)) hx hb dX9_beatsAllOthers_64 (by decide) ?_
    obtain rfl := Option.some.inj h
    exact eI C0 hPD.1 hPD.2 hS rfl dX9_beatsAllOthers_66
  · have h := (if_neg cc1).symm.trans h
    refine lv_iconst (v := 0) hx hb dX9_beatsAllOthers_7 (by decide) ?_
    refine lv_istore (lv' := [(4, .int 0), (0, .ref h0), (1, .int p1), (2, .int p2), (3, .int l3)]) hx hb dX9_beatsAllOthers_8 hl (by decide) rfl (fun ls hl => ?_)
    refine lv_iconst (v := 0) hx hb dX9_beatsAllOthers_10 (by decide) ?_
    refine lv_istore (lv' := [(5, .int 0), (4, .int 0), (0, .ref h0), (1, .int p1), (2, .int p2), (3, .int l3)]) hx hb dX9_beatsAllOthers_11 hl (by decide) rfl (fun ls hl => ?_)
    exact ww_f9_beatsAllOthers_l13 C0 hk2 NF l3 0 0 h _ _ _ hPD hS (lv_sub hl [2, 3, 4, 5, 1, 0] rfl)
set_option maxRecDepth 100000 in
set_option maxHeartbeats 4000000 in
theorem ww_f9_beatsAllOthers_l2  (C0 : Cx cX9_beatsAllOthers 6 (some .int) RX9 p s m args meth c G DA) {h0 : Nat} {a0 : Nat → Nat} {wk : Option Nat} {f0 : Nat → Int32} {A0 : Nat → Nat → Int32} {p1 : Int32} {p2 : Int32}   {res : Int32}  : ∀ (n : Nat) (l3 : Int32), f9_beatsAllOthers_l2 f0 A0 p1 p2  n l3 = some res → ∀ (H : Heap) (locs : List Loc) (ls : Array Slot), WD G DA (wX9 G h0 a0 wk f0 A0) H → va_S DA s.heap H locs → lv_has ls 6 [(0, .ref h0), (1, .int p1), (2, .int p2), (3, .int l3)] → W p l e rmX9_beatsAllOthers s m args below meth c H locs 0 0 (MQ below (QI G DA res (wX9 G h0 a0 wk f0 A0)) args s 0 0 DA) (F0 m 2 ls []) := by
  intro n
  induction n with
  | zero => intro l3 h; cases h
  | succ n ih => intro l3 h; exact ww_f9_beatsAllOthers_b2 C0  ih l3 h
set_option maxRecDepth 100000 in
set_option maxHeartbeats 4000000 in
theorem kt_X9_beatsAllOthers (l : Launch) (G : Gp) (h0 : Nat) (a0 : Nat → Nat) (wk : Option Nat) (f0 : Nat → Int32) (A0 : Nat → Nat → Int32) (p1 : Int32) (p2 : Int32) : ∀ {r : Int32}, f9_beatsAllOthers f0 A0 p1 p2 = some r → CtrI l yX9_beatsAllOthers cX9_beatsAllOthers 6 (some .int) rmX9_beatsAllOthers G [.ref h0, .int p1, .int p2] (wX9 G h0 a0 wk f0 A0) r (wX9 G h0 a0 wk f0 A0) := by
  intro res h
  refine ctrI_of (cc := cX9_beatsAllOthers) (maxL := 6) (ret := (some .int)) (by decide +kernel) rfl (Nat.le_of_ble_eq_true rfl) (fun p e s m below meth c DA C0 hP hD ls hl => ?_)
  have hPD : WD G DA (wX9 G h0 a0 wk f0 A0) s.heap := ⟨hP, hD⟩
  have hS : va_S DA s.heap s.heap [] := va_S.rf
  have hl : lv_has ls 6 [(0, .ref h0), (1, .int p1), (2, .int p2)] := hl
  obtain ⟨hx, hb, hml, hown, hts⟩ := C0.1
  have hK := C0.2.2.2.1
  unfold f9_beatsAllOthers at h
  refine lv_iconst (v := 0) hx hb dX9_beatsAllOthers_0 (by decide) ?_
  refine lv_istore_n (lv' := [(3, .int 0), (0, .ref h0), (1, .int p1), (2, .int p2)]) hx hb dX9_beatsAllOthers_1 rfl hl (by decide) rfl (fun ls hl => ?_)
  exact ww_f9_beatsAllOthers_l2 C0 NF 0 h _ _ _ hPD hS (lv_sub hl [1, 2, 3, 0] rfl)
abbrev rmX9_fewestPlaces : Room := { frames := 1, cells := 0, slots := 0, locals := 21 }
set_option maxRecDepth 100000 in
set_option maxHeartbeats 4000000 in
theorem ww_f9_fewestPlaces_b20  (C0 : Cx cX9_fewestPlaces 8 (some .int) RX9 p s m args meth c G DA) {h0 : Nat} {a0 : Nat → Nat} {wk : Option Nat} {f0 : Nat → Int32} {A0 : Nat → Nat → Int32} {p1 : Int32} {p2 : Int32}  {k8 : Int32 → Int32 → Int32 → Option (Int32)} {k20 : Int32 → Int32 → Int32 → Int32 → Int32 → Option (Int32)} {res : Int32} (hk8 : ∀ (l3 : Int32) (l4 : Int32) (l5 : Int32), k8 l3 l4 l5 = some res → ∀ (H : Heap) (locs : List Loc) (ls : Array Slot), WD G DA (wX9 G h0 a0 wk f0 A0) H → va_S DA s.heap H locs → lv_has ls 8 [(0, .ref h0), (1, .int p1), (2, .int p2), (3, .int l3), (4, .int l4), (5, .int l5)] → W p l e rmX9_fewestPlaces s m args below meth c H locs 0 0 (MQ below (QI G DA res (wX9 G h0 a0 wk f0 A0)) args s 0 0 DA) (F0 m 8 ls [])) (hk20 : ∀ (l3 : Int32) (l4 : Int32) (l5 : Int32) (l6 : Int32) (l7 : Int32), k20 l3 l4 l5 l6 l7 = some res → ∀ (H : Heap) (locs : List Loc) (ls : Array Slot), WD G DA (wX9 G h0 a0 wk f0 A0) H → va_S DA s.heap H locs → lv_has ls 8 [(0, .ref h0), (1, .int p1), (2, .int p2), (3, .int l3), (4, .int l4), (5, .int l5), (6, .int l6), (7, .int l7)] → W p l e rmX9_fewestPlaces s m args below meth c H locs 0 0 (MQ below (QI G DA res (wX9 G h0 a0 wk f0 A0)) args s 0 0 DA) (F0 m 20 ls [])) : ∀ (l3 : Int32) (l4 : Int32) (l5 : Int32) (l6 : Int32) (l7 : Int32), f9_fewestPlaces_b20 f0 A0 p1 p2 k8 k20 l3 l4 l5 l6 l7 = some res → ∀ (H : Heap) (locs : List Loc) (ls : Array Slot), WD G DA (wX9 G h0 a0 wk f0 A0) H → va_S DA s.heap H locs → lv_has ls 8 [(0, .ref h0), (1, .int p1), (2, .int p2), (3, .int l3), (4, .int l4), (5, .int l5), (6, .int l6), (7, .int l7)] → W p l e rmX9_fewestPlaces s m args below meth c H locs 0 0 (MQ below (QI G DA res (wX9 G h0 a0 wk f0 A0)) args s 0 0 DA) (F0 m 20 ls []) := by
  obtain ⟨hx, hb, hml, hown, hts⟩ := C0.1
  have hK := C0.2.2.2.1
  intro l3 l4 l5 l6 l7 h _ _ _ hPD hS hl
  unfold f9_fewestPlaces_b20 at h
  refine lv_iload hx hb dX9_fewestPlaces_20 (lv_at hl 7 rfl) ?_
  refine lv_iload_n hx hb dX9_fewestPlaces_22 rfl (lv_at hl 2 rfl) ?_
  refine lv_icmp_ge (tgt := 52) hx hb dX9_fewestPlaces_23 (by decide) (fun cc1 => ?_) (fun cc1 => ?_)
  · have h := (if_pos cc1).symm.trans h
    refine lv_iload_n hx hb dX9_fewestPlaces_52 rfl (lv_at hl 3 rfl) ?_
    refine lv_iconst (v := (-1)) hx hb dX9_fewestPlaces_53 (by decide) ?_
    refine lv_icmp_eq (tgt := 64) hx hb dX9_fewestPlaces_54 (by decide) (fun cc1 => ?_) (fun cc1 => ?_)
    · have h := (if_pos cc1).symm.trans h
      refine lv_iload hx hb dX9_fewestPlaces_64 (lv_at hl 6 rfl) ?_
      refine lv_istore (lv' := [(4, .int l6), (0, .ref h0), (1, .int p1), (2, .int p2), (3, .int l3), (5, .int l5), (6, .int l6), (7, .int l7)]) hx hb dX9_fewestPlaces_66 hl (by decide) rfl (fun ls hl => ?_)
      refine lv_iload hx hb dX9_fewestPlaces_68 (lv_at hl 5 rfl) ?_
      refine lv_istore_n (lv' := [(3, .int l5), (4, .int l6), (0, .ref h0), (1, .int p1), (2, .int p2), (5, .int l5), (6, .int l6), (7, .int l7)]) hx hb dX9_fewestPlaces_70 rfl hl (by decide) rfl (fun ls hl => ?_)
      refine lv_iinc (v := l5 + 1) (lv' := [(5, .int (l5 + 1)), (3, .int l5), (4, .int l6), (0, .ref h0), (1, .int p1), (2, .int p2), (6, .int l6), (7, .int l7)]) hx hb dX9_fewestPlaces_71 hl (k := 5) rfl rfl (by decide) rfl (fun ls hl => ?_)
      refine lv_goto (tgt := 8) hx hb dX9_fewestPlaces_74 (by decide) ?_
      exact hk8 l5 l6 (l5 + 1) h _ _ _ hPD hS (lv_sub hl [3, 4, 5, 1, 2, 0] rfl)
    · have h := (if_neg cc1).symm.trans h
      refine lv_iload hx hb dX9_fewestPlaces_57 (lv_at hl 6 rfl) ?_
      refine lv_iload hx hb dX9_fewestPlaces_59 (lv_at hl 4 rfl) ?_
      refine lv_icmp_ge (tgt := 71) hx hb dX9_fewestPlaces_61 (by decide) (fun cc1 => ?_) (fun cc1 => ?_)
      · have h := (if_pos cc1).symm.trans h
        refine lv_iinc (v := l5 + 1) (lv' := [(5, .int (l5 + 1)), (0, .ref h0), (1, .int p1), (2, .int p2), (3, .int l3), (4, .int l4), (6, .int l6), (7, .int l7)]) hx hb dX9_fewestPlaces_71 hl (k := 5) rfl rfl (by decide) rfl (fun ls hl => ?_)
        refine lv_goto (tgt := 8) hx hb dX9_fewestPlaces_74 (by decide) ?_
        exact hk8 l3 l4 (l5 + 1) h _ _ _ hPD hS (lv_sub hl [1, 2, 3, 4, 5, 0] rfl)
      · have h := (if_neg cc1).symm.trans h
        refine lv_iload hx hb dX9_fewestPlaces_64 (lv_at hl 6 rfl) ?_
        refine lv_istore (lv' := [(4, .int l6), (0, .ref h0), (1, .int p1), (2, .int p2), (3, .int l3), (5, .int l5), (6, .int l6), (7, .int l7)]) hx hb dX9_fewestPlaces_66 hl (by decide) rfl (fun ls hl => ?_)
        refine lv_iload hx hb dX9_fewestPlaces_68 (lv_at hl 5 rfl) ?_
        refine lv_istore_n (lv' := [(3, .int l5), (4, .int l6), (0, .ref h0), (1, .int p1), (2, .int p2), (5, .int l5), (6, .int l6), (7, .int l7)]) hx hb dX9_fewestPlaces_70 rfl hl (by decide) rfl (fun ls hl => ?_)
        refine lv_iinc (v := l5 + 1) (lv' := [(5, .int (l5 + 1)), (3, .int l5), (4, .int l6), (0, .ref h0), (1, .int p1), (2, .int p2), (6, .int l6), (7, .int l7)]) hx hb dX9_fewestPlaces_71 hl (k := 5) rfl rfl (by decide) rfl (fun ls hl => ?_)
        refine lv_goto (tgt := 8) hx hb dX9_fewestPlaces_74 (by decide) ?_
        exact hk8 l5 l6 (l5 + 1) h _ _ _ hPD hS (lv_sub hl [3, 4, 5, 1, 2, 0] rfl)
  · have h := (if_neg cc1).symm.trans h
    refine lv_iload hx hb dX9_fewestPlaces_26 (lv_at hl 6 rfl) ?_
    refine lv_aload_n hx hb dX9_fewestPlaces_28 rfl (lv_at hl 0 rfl) ?_
    refine va_get (D := G.1) (ci := 9) (v := .ref (a0 9)) (C := RX9) (T := TX9) (N := 15) hx hb hts inlX9 hown hK hPD.1 0 rfl rfl 9 (by decide) (hts _ gw_500) (fun _ h9 => h9) rfl dX9_fewestPlaces_29 ?_
    refine lv_iload hx hb dX9_fewestPlaces_32 (lv_at hl 7 rfl) ?_
    refine lv_bipush (v := 6) hx hb dX9_fewestPlaces_34 (by decide) ?_
    refine lv_imul hx hb dX9_fewestPlaces_36 ?_
    refine lv_iload hx hb dX9_fewestPlaces_37 (lv_at hl 5 rfl) ?_
    refine lv_iadd hx hb dX9_fewestPlaces_39 ?_
    refine kSI (As := [.ref (a0 9), .int ((l7 * 6) + l5)]) (rest := [.int l6]) C0 (kt_X9_at l G (a0 9) 54 (A0 9) ((l7 * 6) + l5) (by decide)) gi_S_X9_188_X9_at (n := 2) rfl (by decide +kernel) ⟨rfl, rfl, Nat.le_of_ble_eq_true rfl, Nat.le_of_ble_eq_true rfl⟩ hPD hS [1] [0] [0, 1] (wr := pick (wX9 G h0 a0 wk f0 A0) [0]) (wN := (wX9 G h0 a0 wk f0 A0)) rfl rfl rfl rfl rfl hl.1 (Nat.le_of_ble_eq_true rfl) dX9_fewestPlaces_40 (fun H locs hPD hS => ?_)
    refine lv_iadd hx hb dX9_fewestPlaces_43 ?_
    refine lv_istore (lv' := [(6, .int (l6 + (f9_at 54 (A0 9) ((l7 * 6) + l5)))), (0, .ref h0), (1, .int p1), (2, .int p2), (3, .int l3), (4, .int l4), (5, .int l5), (7, .int l7)]) hx hb dX9_fewestPlaces_44 hl (by decide) rfl (fun ls hl => ?_)
    refine lv_iinc (v := l7 + 1) (lv' := [(7, .int (l7 + 1)), (6, .int (l6 + (f9_at 54 (A0 9) ((l7 * 6) + l5)))), (0, .ref h0), (1, .int p1), (2, .int p2), (3, .int l3), (4, .int l4), (5, .int l5)]) hx hb dX9_fewestPlaces_46 hl (k := 7) rfl rfl (by decide) rfl (fun ls hl => ?_)
    refine lv_goto (tgt := 20) hx hb dX9_fewestPlaces_49 (by decide) ?_
    exact hk20 l3 l4 l5 (l6 + (f9_at 54 (A0 9) ((l7 * 6) + l5))) (l7 + 1) h _ _ _ hPD hS (lv_sub hl [2, 3, 4, 5, 6, 7, 1, 0] rfl)
set_option maxRecDepth 100000 in
set_option maxHeartbeats 4000000 in
theorem ww_f9_fewestPlaces_l20  (C0 : Cx cX9_fewestPlaces 8 (some .int) RX9 p s m args meth c G DA) {h0 : Nat} {a0 : Nat → Nat} {wk : Option Nat} {f0 : Nat → Int32} {A0 : Nat → Nat → Int32} {p1 : Int32} {p2 : Int32}  {k8 : Int32 → Int32 → Int32 → Option (Int32)} {res : Int32} (hk8 : ∀ (l3 : Int32) (l4 : Int32) (l5 : Int32), k8 l3 l4 l5 = some res → ∀ (H : Heap) (locs : List Loc) (ls : Array Slot), WD G DA (wX9 G h0 a0 wk f0 A0) H → va_S DA s.heap H locs → lv_has ls 8 [(0, .ref h0), (1, .int p1), (2, .int p2), (3, .int l3), (4, .int l4), (5, .int l5)] → W p l e rmX9_fewestPlaces s m args below meth c H locs 0 0 (MQ below (QI G DA res (wX9 G h0 a0 wk f0 A0)) args s 0 0 DA) (F0 m 8 ls [])) : ∀ (n : Nat) (l3 : Int32) (l4 : Int32) (l5 : Int32) (l6 : Int32) (l7 : Int32), f9_fewestPlaces_l20 f0 A0 p1 p2 k8 n l3 l4 l5 l6 l7 = some res → ∀ (H : Heap) (locs : List Loc) (ls : Array Slot), WD G DA (wX9 G h0 a0 wk f0 A0) H → va_S DA s.heap H locs → lv_has ls 8 [(0, .ref h0), (1, .int p1), (2, .int p2), (3, .int l3), (4, .int l4), (5, .int l5), (6, .int l6), (7, .int l7)] → W p l e rmX9_fewestPlaces s m args below meth c H locs 0 0 (MQ below (QI G DA res (wX9 G h0 a0 wk f0 A0)) args s 0 0 DA) (F0 m 20 ls []) := by
  intro n
  induction n with
  | zero => intro l3 l4 l5 l6 l7 h; cases h
  | succ n ih => intro l3 l4 l5 l6 l7 h; exact ww_f9_fewestPlaces_b20 C0 hk8 ih l3 l4 l5 l6 l7 h
set_option maxRecDepth 100000 in
set_option maxHeartbeats 4000000 in
theorem ww_f9_fewestPlaces_b8  (C0 : Cx cX9_fewestPlaces 8 (some .int) RX9 p s m args meth c G DA) {h0 : Nat} {a0 : Nat → Nat} {wk : Option Nat} {f0 : Nat → Int32} {A0 : Nat → Nat → Int32} {p1 : Int32} {p2 : Int32}  {k8 : Int32 → Int32 → Int32 → Option (Int32)} {res : Int32}  (hk8 : ∀ (l3 : Int32) (l4 : Int32) (l5 : Int32), k8 l3 l4 l5 = some res → ∀ (H : Heap) (locs : List Loc) (ls : Array Slot), WD G DA (wX9 G h0 a0 wk f0 A0) H → va_S DA s.heap H locs → lv_has ls 8 [(0, .ref h0), (1, .int p1), (2, .int p2), (3, .int l3), (4, .int l4), (5, .int l5)] → W p l e rmX9_fewestPlaces s m args below meth c H locs 0 0 (MQ below (QI G DA res (wX9 G h0 a0 wk f0 A0)) args s 0 0 DA) (F0 m 8 ls [])) : ∀ (l3 : Int32) (l4 : Int32) (l5 : Int32), f9_fewestPlaces_b8 f0 A0 p1 p2  k8 l3 l4 l5 = some res → ∀ (H : Heap) (locs : List Loc) (ls : Array Slot), WD G DA (wX9 G h0 a0 wk f0 A0) H → va_S DA s.heap H locs → lv_has ls 8 [(0, .ref h0), (1, .int p1), (2, .int p2), (3, .int l3), (4, .int l4), (5, .int l5)] → W p l e rmX9_fewestPlaces s m args below meth c H locs 0 0 (MQ below (QI G DA res (wX9 G h0 a0 wk f0 A0)) args s 0 0 DA) (F0 m 8 ls []) := by
  obtain ⟨hx, hb, hml, hown, hts⟩ := C0.1
  have hK := C0.2.2.2.1
  intro l3 l4 l5 h _ _ _ hPD hS hl
  unfold f9_fewestPlaces_b8 at h
  refine lv_iload hx hb dX9_fewestPlaces_8 (lv_at hl 5 rfl) ?_
  refine lv_iload_n hx hb dX9_fewestPlaces_10 rfl (lv_at hl 1 rfl) ?_
  refine lv_icmp_ge (tgt := 77) hx hb dX9_fewestPlaces_11 (by decide) (fun cc1 => ?_) (fun cc1 => ?_)
  · have h := (if_pos cc1).symm.trans h
    refine lv_iload_n hx hb dX9_fewestPlaces_77 rfl (lv_at hl 3 rfl) ?_
    obtain rfl := Option.some.inj h
    exact eI C0 hPD.1 hPD.2 hS rfl dX9_fewestPlaces_78
  · have h := (if_neg cc1).symm.trans h
    refine lv_iconst (v := 0) hx hb dX9_fewestPlaces_14 (by decide) ?_
    refine lv_istore (lv' := [(6, .int 0), (0, .ref h0), (1, .int p1), (2, .int p2), (3, .int l3), (4, .int l4), (5, .int l5)]) hx hb dX9_fewestPlaces_15 hl (by decide) rfl (fun ls hl => ?_)
    refine lv_iconst (v := 0) hx hb dX9_fewestPlaces_17 (by decide) ?_
    refine lv_istore (lv' := [(7, .int 0), (6, .int 0), (0, .ref h0), (1, .int p1), (2, .int p2), (3, .int l3), (4, .int l4), (5, .int l5)]) hx hb dX9_fewestPlaces_18 hl (by decide) rfl (fun ls hl => ?_)
    exact ww_f9_fewestPlaces_l20 C0 hk8 NF l3 l4 l5 0 0 h _ _ _ hPD hS (lv_sub hl [2, 3, 4, 5, 6, 7, 1, 0] rfl)
set_option maxRecDepth 100000 in
set_option maxHeartbeats 4000000 in
theorem ww_f9_fewestPlaces_l8  (C0 : Cx cX9_fewestPlaces 8 (some .int) RX9 p s m args meth c G DA) {h0 : Nat} {a0 : Nat → Nat} {wk : Option Nat} {f0 : Nat → Int32} {A0 : Nat → Nat → Int32} {p1 : Int32} {p2 : Int32}   {res : Int32}  : ∀ (n : Nat) (l3 : Int32) (l4 : Int32) (l5 : Int32), f9_fewestPlaces_l8 f0 A0 p1 p2  n l3 l4 l5 = some res → ∀ (H : Heap) (locs : List Loc) (ls : Array Slot), WD G DA (wX9 G h0 a0 wk f0 A0) H → va_S DA s.heap H locs → lv_has ls 8 [(0, .ref h0), (1, .int p1), (2, .int p2), (3, .int l3), (4, .int l4), (5, .int l5)] → W p l e rmX9_fewestPlaces s m args below meth c H locs 0 0 (MQ below (QI G DA res (wX9 G h0 a0 wk f0 A0)) args s 0 0 DA) (F0 m 8 ls []) := by
  intro n
  induction n with
  | zero => intro l3 l4 l5 h; cases h
  | succ n ih => intro l3 l4 l5 h; exact ww_f9_fewestPlaces_b8 C0  ih l3 l4 l5 h
set_option maxRecDepth 100000 in
set_option maxHeartbeats 4000000 in
theorem kt_X9_fewestPlaces (l : Launch) (G : Gp) (h0 : Nat) (a0 : Nat → Nat) (wk : Option Nat) (f0 : Nat → Int32) (A0 : Nat → Nat → Int32) (p1 : Int32) (p2 : Int32) : ∀ {r : Int32}, f9_fewestPlaces f0 A0 p1 p2 = some r → CtrI l yX9_fewestPlaces cX9_fewestPlaces 8 (some .int) rmX9_fewestPlaces G [.ref h0, .int p1, .int p2] (wX9 G h0 a0 wk f0 A0) r (wX9 G h0 a0 wk f0 A0) := by
  intro res h
  refine ctrI_of (cc := cX9_fewestPlaces) (maxL := 8) (ret := (some .int)) (by decide +kernel) rfl (Nat.le_of_ble_eq_true rfl) (fun p e s m below meth c DA C0 hP hD ls hl => ?_)
  have hPD : WD G DA (wX9 G h0 a0 wk f0 A0) s.heap := ⟨hP, hD⟩
  have hS : va_S DA s.heap s.heap [] := va_S.rf
  have hl : lv_has ls 8 [(0, .ref h0), (1, .int p1), (2, .int p2)] := hl
  obtain ⟨hx, hb, hml, hown, hts⟩ := C0.1
  have hK := C0.2.2.2.1
  unfold f9_fewestPlaces at h
  refine lv_iconst (v := (-1)) hx hb dX9_fewestPlaces_0 (by decide) ?_
  refine lv_istore_n (lv' := [(3, .int (-1)), (0, .ref h0), (1, .int p1), (2, .int p2)]) hx hb dX9_fewestPlaces_1 rfl hl (by decide) rfl (fun ls hl => ?_)
  refine lv_iconst (v := 0) hx hb dX9_fewestPlaces_2 (by decide) ?_
  refine lv_istore (lv' := [(4, .int 0), (3, .int (-1)), (0, .ref h0), (1, .int p1), (2, .int p2)]) hx hb dX9_fewestPlaces_3 hl (by decide) rfl (fun ls hl => ?_)
  refine lv_iconst (v := 0) hx hb dX9_fewestPlaces_5 (by decide) ?_
  refine lv_istore (lv' := [(5, .int 0), (4, .int 0), (3, .int (-1)), (0, .ref h0), (1, .int p1), (2, .int p2)]) hx hb dX9_fewestPlaces_6 hl (by decide) rfl (fun ls hl => ?_)
  exact ww_f9_fewestPlaces_l8 C0 NF (-1) 0 0 h _ _ _ hPD hS (lv_sub hl [3, 4, 5, 2, 1, 0] rfl)
abbrev rmX9_twosAlike : Room := { frames := 2, cells := 0, slots := 0, locals := 46 }
set_option maxRecDepth 100000 in
set_option maxHeartbeats 4000000 in
theorem ww_f9_twosAlike_b17  (C0 : Cx cX9_twosAlike 6 (some .int) RX9 p s m args meth c G DA) {h0 : Nat} {a0 : Nat → Nat} {wk : Option Nat} {f0 : Nat → Int32} {A0 : Nat → Nat → Int32} {p1 : Int32} {p2 : Int32}  {k5 : Int32 → Int32 → Option (Int32)} {k17 : Int32 → Int32 → Int32 → Option (Int32)} {res : Int32} (hk5 : ∀ (l3 : Int32) (l4 : Int32), k5 l3 l4 = some res → ∀ (H : Heap) (locs : List Loc) (ls : Array Slot), WD G DA (wX9 G h0 a0 wk f0 A0) H → va_S DA s.heap H locs → lv_has ls 6 [(0, .ref h0), (1, .int p1), (2, .int p2), (3, .int l3), (4, .int l4)] → W p l e rmX9_twosAlike s m args below meth c H locs 0 0 (MQ below (QI G DA res (wX9 G h0 a0 wk f0 A0)) args s 0 0 DA) (F0 m 5 ls [])) (hk17 : ∀ (l3 : Int32) (l4 : Int32) (l5 : Int32), k17 l3 l4 l5 = some res → ∀ (H : Heap) (locs : List Loc) (ls : Array Slot), WD G DA (wX9 G h0 a0 wk f0 A0) H → va_S DA s.heap H locs → lv_has ls 6 [(0, .ref h0), (1, .int p1), (2, .int p2), (3, .int l3), (4, .int l4), (5, .int l5)] → W p l e rmX9_twosAlike s m args below meth c H locs 0 0 (MQ below (QI G DA res (wX9 G h0 a0 wk f0 A0)) args s 0 0 DA) (F0 m 17 ls [])) : ∀ (l3 : Int32) (l4 : Int32) (l5 : Int32), f9_twosAlike_b17 f0 A0 p1 p2 k5 k17 l3 l4 l5 = some res → ∀ (H : Heap) (locs : List Loc) (ls : Array Slot), WD G DA (wX9 G h0 a0 wk f0 A0) H → va_S DA s.heap H locs → lv_has ls 6 [(0, .ref h0), (1, .int p1), (2, .int p2), (3, .int l3), (4, .int l4), (5, .int l5)] → W p l e rmX9_twosAlike s m args below meth c H locs 0 0 (MQ below (QI G DA res (wX9 G h0 a0 wk f0 A0)) args s 0 0 DA) (F0 m 17 ls []) := by
  obtain ⟨hx, hb, hml, hown, hts⟩ := C0.1
  have hK := C0.2.2.2.1
  intro l3 l4 l5 h _ _ _ hPD hS hl
  unfold f9_twosAlike_b17 at h
  refine lv_iload hx hb dX9_twosAlike_17 (lv_at hl 5 rfl) ?_
  refine lv_iload_n hx hb dX9_twosAlike_19 rfl (lv_at hl 1 rfl) ?_
  refine lv_icmp_ge (tgt := 47) hx hb dX9_twosAlike_20 (by decide) (fun cc1 => ?_) (fun cc1 => ?_)
  · have h := (if_pos cc1).symm.trans h
    refine lv_iinc (v := l4 + 1) (lv' := [(4, .int (l4 + 1)), (0, .ref h0), (1, .int p1), (2, .int p2), (3, .int l3), (5, .int l5)]) hx hb dX9_twosAlike_47 hl (k := 4) rfl rfl (by decide) rfl (fun ls hl => ?_)
    refine lv_goto (tgt := 5) hx hb dX9_twosAlike_50 (by decide) ?_
    exact hk5 l3 (l4 + 1) h _ _ _ hPD hS (lv_sub hl [1, 2, 3, 4, 0] rfl)
  · have h := (if_neg cc1).symm.trans h
    refine lv_iconst (v := 2) hx hb dX9_twosAlike_23 (by decide) ?_
    refine lv_aload_n hx hb dX9_twosAlike_24 rfl (lv_at hl 0 rfl) ?_
    refine lv_iload hx hb dX9_twosAlike_25 (lv_at hl 4 rfl) ?_
    refine lv_iload hx hb dX9_twosAlike_27 (lv_at hl 5 rfl) ?_
    refine lv_iload_n hx hb dX9_twosAlike_29 rfl (lv_at hl 2 rfl) ?_
    obtain ⟨q_1, hq_1, h⟩ := ob2 h
    refine kVI (As := [.int l4, .int l5, .int p2]) (rest := [.int 2]) C0 (kt_X9_judgesFor l G h0 a0 wk f0 A0 l4 l5 p2 hq_1) gi_V_X9_293_X9_judgesFor (n := 3) rfl (by decide +kernel) rfl ⟨rfl, rfl, Nat.le_of_ble_eq_true rfl, Nat.le_of_ble_eq_true rfl⟩ hPD hS 0 9 rfl rfl rfl [0, 1] [] [0, 1] (wr := ([] : va_W)) (wN := (wX9 G h0 a0 wk f0 A0)) rfl rfl rfl rfl rfl hl.1 (Nat.le_of_ble_eq_true rfl) dX9_twosAlike_30 (fun H locs hPD hS => ?_)
    refine lv_imul hx hb dX9_twosAlike_33 ?_
    refine lv_iload_n hx hb dX9_twosAlike_34 rfl (lv_at hl 2 rfl) ?_
    refine lv_icmp_ne (tgt := 41) hx hb dX9_twosAlike_35 (by decide) (fun cc1 => ?_) (fun cc1 => ?_)
    · have h := (if_neg cc1).symm.trans h
      refine lv_iinc (v := l5 + 1) (lv' := [(5, .int (l5 + 1)), (0, .ref h0), (1, .int p1), (2, .int p2), (3, .int l3), (4, .int l4)]) hx hb dX9_twosAlike_41 hl (k := 5) rfl rfl (by decide) rfl (fun ls hl => ?_)
      refine lv_goto (tgt := 17) hx hb dX9_twosAlike_44 (by decide) ?_
      exact hk17 l3 l4 (l5 + 1) h _ _ _ hPD hS (lv_sub hl [1, 2, 3, 4, 5, 0] rfl)
    · have h := (if_pos cc1).symm.trans h
      refine lv_iinc (v := l3 + 1) (lv' := [(3, .int (l3 + 1)), (0, .ref h0), (1, .int p1), (2, .int p2), (4, .int l4), (5, .int l5)]) hx hb dX9_twosAlike_38 hl (k := 3) rfl rfl (by decide) rfl (fun ls hl => ?_)
      refine lv_iinc (v := l5 + 1) (lv' := [(5, .int (l5 + 1)), (3, .int (l3 + 1)), (0, .ref h0), (1, .int p1), (2, .int p2), (4, .int l4)]) hx hb dX9_twosAlike_41 hl (k := 5) rfl rfl (by decide) rfl (fun ls hl => ?_)
      refine lv_goto (tgt := 17) hx hb dX9_twosAlike_44 (by decide) ?_
      exact hk17 (l3 + 1) l4 (l5 + 1) h _ _ _ hPD hS (lv_sub hl [2, 3, 4, 1, 5, 0] rfl)
set_option maxRecDepth 100000 in
set_option maxHeartbeats 4000000 in
theorem ww_f9_twosAlike_l17  (C0 : Cx cX9_twosAlike 6 (some .int) RX9 p s m args meth c G DA) {h0 : Nat} {a0 : Nat → Nat} {wk : Option Nat} {f0 : Nat → Int32} {A0 : Nat → Nat → Int32} {p1 : Int32} {p2 : Int32}  {k5 : Int32 → Int32 → Option (Int32)} {res : Int32} (hk5 : ∀ (l3 : Int32) (l4 : Int32), k5 l3 l4 = some res → ∀ (H : Heap) (locs : List Loc) (ls : Array Slot), WD G DA (wX9 G h0 a0 wk f0 A0) H → va_S DA s.heap H locs → lv_has ls 6 [(0, .ref h0), (1, .int p1), (2, .int p2), (3, .int l3), (4, .int l4)] → W p l e rmX9_twosAlike s m args below meth c H locs 0 0 (MQ below (QI G DA res (wX9 G h0 a0 wk f0 A0)) args s 0 0 DA) (F0 m 5 ls [])) : ∀ (n : Nat) (l3 : Int32) (l4 : Int32) (l5 : Int32), f9_twosAlike_l17 f0 A0 p1 p2 k5 n l3 l4 l5 = some res → ∀ (H : Heap) (locs : List Loc) (ls : Array Slot), WD G DA (wX9 G h0 a0 wk f0 A0) H → va_S DA s.heap H locs → lv_has ls 6 [(0, .ref h0), (1, .int p1), (2, .int p2), (3, .int l3), (4, .int l4), (5, .int l5)] → W p l e rmX9_twosAlike s m args below meth c H locs 0 0 (MQ below (QI G DA res (wX9 G h0 a0 wk f0 A0)) args s 0 0 DA) (F0 m 17 ls []) := by
  intro n
  induction n with
  | zero => intro l3 l4 l5 h; cases h
  | succ n ih => intro l3 l4 l5 h; exact ww_f9_twosAlike_b17 C0 hk5 ih l3 l4 l5 h
set_option maxRecDepth 100000 in
set_option maxHeartbeats 4000000 in
theorem ww_f9_twosAlike_b5  (C0 : Cx cX9_twosAlike 6 (some .int) RX9 p s m args meth c G DA) {h0 : Nat} {a0 : Nat → Nat} {wk : Option Nat} {f0 : Nat → Int32} {A0 : Nat → Nat → Int32} {p1 : Int32} {p2 : Int32}  {k5 : Int32 → Int32 → Option (Int32)} {res : Int32}  (hk5 : ∀ (l3 : Int32) (l4 : Int32), k5 l3 l4 = some res → ∀ (H : Heap) (locs : List Loc) (ls : Array Slot), WD G DA (wX9 G h0 a0 wk f0 A0) H → va_S DA s.heap H locs → lv_has ls 6 [(0, .ref h0), (1, .int p1), (2, .int p2), (3, .int l3), (4, .int l4)] → W p l e rmX9_twosAlike s m args below meth c H locs 0 0 (MQ below (QI G DA res (wX9 G h0 a0 wk f0 A0)) args s 0 0 DA) (F0 m 5 ls [])) : ∀ (l3 : Int32) (l4 : Int32), f9_twosAlike_b5 f0 A0 p1 p2  k5 l3 l4 = some res → ∀ (H : Heap) (locs : List Loc) (ls : Array Slot), WD G DA (wX9 G h0 a0 wk f0 A0) H → va_S DA s.heap H locs → lv_has ls 6 [(0, .ref h0), (1, .int p1), (2, .int p2), (3, .int l3), (4, .int l4)] → W p l e rmX9_twosAlike s m args below meth c H locs 0 0 (MQ below (QI G DA res (wX9 G h0 a0 wk f0 A0)) args s 0 0 DA) (F0 m 5 ls []) := by
  obtain ⟨hx, hb, hml, hown, hts⟩ := C0.1
  have hK := C0.2.2.2.1
  intro l3 l4 h _ _ _ hPD hS hl
  unfold f9_twosAlike_b5 at h
  refine lv_iload hx hb dX9_twosAlike_5 (lv_at hl 4 rfl) ?_
  refine lv_iload_n hx hb dX9_twosAlike_7 rfl (lv_at hl 1 rfl) ?_
  refine lv_icmp_ge (tgt := 53) hx hb dX9_twosAlike_8 (by decide) (fun cc1 => ?_) (fun cc1 => ?_)
  · have h := (if_pos cc1).symm.trans h
    refine lv_iload_n hx hb dX9_twosAlike_53 rfl (lv_at hl 3 rfl) ?_
    obtain rfl := Option.some.inj h
    exact eI C0 hPD.1 hPD.2 hS rfl dX9_twosAlike_54
  · have h := (if_neg cc1).symm.trans h
    refine lv_iload hx hb dX9_twosAlike_11 (lv_at hl 4 rfl) ?_
    refine lv_iconst (v := 1) hx hb dX9_twosAlike_13 (by decide) ?_
    refine lv_iadd hx hb dX9_twosAlike_14 ?_
    refine lv_istore (lv' := [(5, .int (l4 + 1)), (0, .ref h0), (1, .int p1), (2, .int p2), (3, .int l3), (4, .int l4)]) hx hb dX9_twosAlike_15 hl (by decide) rfl (fun ls hl => ?_)
    exact ww_f9_twosAlike_l17 C0 hk5 NF l3 l4 (l4 + 1) h _ _ _ hPD hS (lv_sub hl [1, 2, 3, 4, 5, 0] rfl)
set_option maxRecDepth 100000 in
set_option maxHeartbeats 4000000 in
theorem ww_f9_twosAlike_l5  (C0 : Cx cX9_twosAlike 6 (some .int) RX9 p s m args meth c G DA) {h0 : Nat} {a0 : Nat → Nat} {wk : Option Nat} {f0 : Nat → Int32} {A0 : Nat → Nat → Int32} {p1 : Int32} {p2 : Int32}   {res : Int32}  : ∀ (n : Nat) (l3 : Int32) (l4 : Int32), f9_twosAlike_l5 f0 A0 p1 p2  n l3 l4 = some res → ∀ (H : Heap) (locs : List Loc) (ls : Array Slot), WD G DA (wX9 G h0 a0 wk f0 A0) H → va_S DA s.heap H locs → lv_has ls 6 [(0, .ref h0), (1, .int p1), (2, .int p2), (3, .int l3), (4, .int l4)] → W p l e rmX9_twosAlike s m args below meth c H locs 0 0 (MQ below (QI G DA res (wX9 G h0 a0 wk f0 A0)) args s 0 0 DA) (F0 m 5 ls []) := by
  intro n
  induction n with
  | zero => intro l3 l4 h; cases h
  | succ n ih => intro l3 l4 h; exact ww_f9_twosAlike_b5 C0  ih l3 l4 h
set_option maxRecDepth 100000 in
set_option maxHeartbeats 4000000 in
theorem kt_X9_twosAlike (l : Launch) (G : Gp) (h0 : Nat) (a0 : Nat → Nat) (wk : Option Nat) (f0 : Nat → Int32) (A0 : Nat → Nat → Int32) (p1 : Int32) (p2 : Int32) : ∀ {r : Int32}, f9_twosAlike f0 A0 p1 p2 = some r → CtrI l yX9_twosAlike cX9_twosAlike 6 (some .int) rmX9_twosAlike G [.ref h0, .int p1, .int p2] (wX9 G h0 a0 wk f0 A0) r (wX9 G h0 a0 wk f0 A0) := by
  intro res h
  refine ctrI_of (cc := cX9_twosAlike) (maxL := 6) (ret := (some .int)) (by decide +kernel) rfl (Nat.le_of_ble_eq_true rfl) (fun p e s m below meth c DA C0 hP hD ls hl => ?_)
  have hPD : WD G DA (wX9 G h0 a0 wk f0 A0) s.heap := ⟨hP, hD⟩
  have hS : va_S DA s.heap s.heap [] := va_S.rf
  have hl : lv_has ls 6 [(0, .ref h0), (1, .int p1), (2, .int p2)] := hl
  obtain ⟨hx, hb, hml, hown, hts⟩ := C0.1
  have hK := C0.2.2.2.1
  unfold f9_twosAlike at h
  refine lv_iconst (v := 0) hx hb dX9_twosAlike_0 (by decide) ?_
  refine lv_istore_n (lv' := [(3, .int 0), (0, .ref h0), (1, .int p1), (2, .int p2)]) hx hb dX9_twosAlike_1 rfl hl (by decide) rfl (fun ls hl => ?_)
  refine lv_iconst (v := 0) hx hb dX9_twosAlike_2 (by decide) ?_
  refine lv_istore (lv' := [(4, .int 0), (3, .int 0), (0, .ref h0), (1, .int p1), (2, .int p2)]) hx hb dX9_twosAlike_3 hl (by decide) rfl (fun ls hl => ?_)
  exact ww_f9_twosAlike_l5 C0 NF 0 0 h _ _ _ hPD hS (lv_sub hl [2, 3, 4, 1, 0] rfl)
abbrev rmX9_bench : Room := { frames := 3, cells := 0, slots := 0, locals := 71 }
set_option maxRecDepth 100000 in
set_option maxHeartbeats 4000000 in
theorem ww_f9_bench_b57  (C0 : Cx cX9_bench 5 (some .int) RX9 p s m args meth c G DA) {h0 : Nat} {a0 : Nat → Nat} {wk : Option Nat} {a1 : Nat → Nat} {f0 : Nat → Int32} {A1 : Nat → Nat → Int32} {p1 : Int32} {p2 : Int32} {p3 : Int32}  {k57 : (Nat → Nat → Int32) → (Nat → Int32) → Int32 → Option (Int32 × (Nat → Nat → Int32) × (Nat → Int32))} {res : Int32 × (Nat → Nat → Int32) × (Nat → Int32)}  (hk57 : ∀ (A0 : Nat → Nat → Int32) (f1 : Nat → Int32) (l4 : Int32), k57 A0 f1 l4 = some res → ∀ (H : Heap) (locs : List Loc) (ls : Array Slot), WD G DA (wX9 G h0 a0 wk f0 A0 ++ (wX7 G (a0 0) a1 f1 A1)) H → va_S DA s.heap H locs → lv_has ls 5 [(0, .ref h0), (1, .int p1), (2, .int p2), (3, .int p3), (4, .int l4)] → W p l e rmX9_bench s m args below meth c H locs 0 0 (MQ below (QI G DA res.1 (wX9 G h0 a0 wk f0 res.2.1 ++ (wX7 G (a0 0) a1 res.2.2 A1))) args s 0 0 DA) (F0 m 57 ls [])) : ∀ (A0 : Nat → Nat → Int32) (f1 : Nat → Int32) (l4 : Int32), f9_bench_b57 f0 A1 p1 p2 p3  k57 A0 f1 l4 = some res → ∀ (H : Heap) (locs : List Loc) (ls : Array Slot), WD G DA (wX9 G h0 a0 wk f0 A0 ++ (wX7 G (a0 0) a1 f1 A1)) H → va_S DA s.heap H locs → lv_has ls 5 [(0, .ref h0), (1, .int p1), (2, .int p2), (3, .int p3), (4, .int l4)] → W p l e rmX9_bench s m args below meth c H locs 0 0 (MQ below (QI G DA res.1 (wX9 G h0 a0 wk f0 res.2.1 ++ (wX7 G (a0 0) a1 res.2.2 A1))) args s 0 0 DA) (F0 m 57 ls []) := by
  obtain ⟨hx, hb, hml, hown, hts⟩ := C0.1
  have hK := C0.2.2.2.1
  intro A0 f1 l4 h _ _ _ hPD hS hl
  unfold f9_bench_b57 at h
  refine lv_iload hx hb dX9_bench_57 (lv_at hl 4 rfl) ?_
  refine lv_iload_n hx hb dX9_bench_59 rfl (lv_at hl 2 rfl) ?_
  refine lv_icmp_ge (tgt := 82) hx hb dX9_bench_60 (by decide) (fun cc1 => ?_) (fun cc1 => ?_)
  · have h := (if_pos cc1).symm.trans h
    refine lv_iload_n hx hb dX9_bench_82 rfl (lv_at hl 3 rfl) ?_
    refine lv_if_ne (tgt := 93) hx hb dX9_bench_83 (by decide) (fun cc1 => ?_) (fun cc1 => ?_)
    · have h := (if_neg cc1).symm.trans h
      refine lv_iload_n hx hb dX9_bench_93 rfl (lv_at hl 3 rfl) ?_
      refine lv_iconst (v := 1) hx hb dX9_bench_94 (by decide) ?_
      refine lv_icmp_ne (tgt := 107) hx hb dX9_bench_95 (by decide) (fun cc1 => ?_) (fun cc1 => ?_)
      · have h := (if_neg cc1).symm.trans h
        refine lv_aload_n hx hb dX9_bench_107 rfl (lv_at hl 0 rfl) ?_
        refine lv_iload_n hx hb dX9_bench_108 rfl (lv_at hl 1 rfl) ?_
        refine lv_iload_n hx hb dX9_bench_109 rfl (lv_at hl 2 rfl) ?_
        obtain ⟨q_2, hq_2, h⟩ := ob2 h
        refine kVI (As := [.int p1, .int p2]) (rest := []) C0 (kt_X9_twosAlike l G h0 a0 wk f0 A0 p1 p2 hq_2) gi_V_X9_287_X9_twosAlike (n := 2) rfl (by decide +kernel) rfl ⟨rfl, rfl, Nat.le_of_ble_eq_true rfl, Nat.le_of_ble_eq_true rfl⟩ hPD hS 0 9 rfl rfl rfl [0, 1] [2, 3] [2, 3, 0, 1] (wr := (wX7 G (a0 0) a1 f1 A1)) (wN := (wX9 G h0 a0 wk f0 A0 ++ (wX7 G (a0 0) a1 f1 A1))) rfl rfl rfl rfl rfl hl.1 (Nat.le_of_ble_eq_true rfl) dX9_bench_110 (fun H locs hPD hS => ?_)
        obtain rfl := Option.some.inj h
        exact eI C0 hPD.1 hPD.2 hS rfl dX9_bench_113
      · have h := (if_pos cc1).symm.trans h
        refine lv_aload_n hx hb dX9_bench_98 rfl (lv_at hl 0 rfl) ?_
        refine lv_iload_n hx hb dX9_bench_99 rfl (lv_at hl 1 rfl) ?_
        refine lv_iload_n hx hb dX9_bench_100 rfl (lv_at hl 2 rfl) ?_
        obtain ⟨q_3, hq_3, h⟩ := ob2 h
        refine kVI (As := [.int p1, .int p2]) (rest := []) C0 (kt_X9_fewestPlaces l G h0 a0 wk f0 A0 p1 p2 hq_3) gi_V_X9_284_X9_fewestPlaces (n := 2) rfl (by decide +kernel) rfl ⟨rfl, rfl, Nat.le_of_ble_eq_true rfl, Nat.le_of_ble_eq_true rfl⟩ hPD hS 0 9 rfl rfl rfl [0, 1] [2, 3] [2, 3, 0, 1] (wr := (wX7 G (a0 0) a1 f1 A1)) (wN := (wX9 G h0 a0 wk f0 A0 ++ (wX7 G (a0 0) a1 f1 A1))) rfl rfl rfl rfl rfl hl.1 (Nat.le_of_ble_eq_true rfl) dX9_bench_101 (fun H locs hPD hS => ?_)
        refine lv_goto (tgt := 113) hx hb dX9_bench_104 (by decide) ?_
        obtain rfl := Option.some.inj h
        exact eI C0 hPD.1 hPD.2 hS rfl dX9_bench_113
    · have h := (if_pos cc1).symm.trans h
      refine lv_aload_n hx hb dX9_bench_86 rfl (lv_at hl 0 rfl) ?_
      refine lv_iload_n hx hb dX9_bench_87 rfl (lv_at hl 1 rfl) ?_
      refine lv_iload_n hx hb dX9_bench_88 rfl (lv_at hl 2 rfl) ?_
      obtain ⟨q_4, hq_4, h⟩ := ob2 h
      refine kVI (As := [.int p1, .int p2]) (rest := []) C0 (kt_X9_beatsAllOthers l G h0 a0 wk f0 A0 p1 p2 hq_4) gi_V_X9_281_X9_beatsAllOthers (n := 2) rfl (by decide +kernel) rfl ⟨rfl, rfl, Nat.le_of_ble_eq_true rfl, Nat.le_of_ble_eq_true rfl⟩ hPD hS 0 9 rfl rfl rfl [0, 1] [2, 3] [2, 3, 0, 1] (wr := (wX7 G (a0 0) a1 f1 A1)) (wN := (wX9 G h0 a0 wk f0 A0 ++ (wX7 G (a0 0) a1 f1 A1))) rfl rfl rfl rfl rfl hl.1 (Nat.le_of_ble_eq_true rfl) dX9_bench_89 (fun H locs hPD hS => ?_)
      obtain rfl := Option.some.inj h
      exact eI C0 hPD.1 hPD.2 hS rfl dX9_bench_92
  · have h := (if_neg cc1).symm.trans h
    refine lv_aload_n hx hb dX9_bench_63 rfl (lv_at hl 0 rfl) ?_
    refine lv_iload_n hx hb dX9_bench_64 rfl (lv_at hl 1 rfl) ?_
    refine lv_iload hx hb dX9_bench_65 (lv_at hl 4 rfl) ?_
    obtain ⟨q_5, hq_5, h⟩ := ob2 h
    refine kVI (As := [.int p1, .int l4]) (rest := []) C0 (kt_X9_takesRanking l G h0 a0 wk a1 f0 A0 f1 A1 p1 l4 hq_5) gi_V_X9_278_X9_takesRanking (n := 2) rfl (by decide +kernel) rfl ⟨rfl, rfl, Nat.le_of_ble_eq_true rfl, Nat.le_of_ble_eq_true rfl⟩ hPD hS 0 9 rfl rfl rfl [0, 1, 2, 3] [] [0, 1, 2, 3] (wr := ([] : va_W)) (wN := (wX9 G h0 a0 wk f0 q_5.2 ++ (wX7 G (a0 0) a1 f1 A1))) rfl rfl rfl rfl rfl hl.1 (Nat.le_of_ble_eq_true rfl) dX9_bench_67 (fun H locs hPD hS => ?_)
    refine lv_if_ne (tgt := 76) hx hb dX9_bench_70 (by decide) (fun cc1 => ?_) (fun cc1 => ?_)
    · have h := (if_neg cc1).symm.trans h
      refine lv_iinc (v := l4 + 1) (lv' := [(4, .int (l4 + 1)), (0, .ref h0), (1, .int p1), (2, .int p2), (3, .int p3)]) hx hb dX9_bench_76 hl (k := 4) rfl rfl (by decide) rfl (fun ls hl => ?_)
      refine lv_goto (tgt := 57) hx hb dX9_bench_79 (by decide) ?_
      exact hk57 q_5.2 f1 (l4 + 1) h _ _ _ hPD hS (lv_sub hl [1, 2, 3, 4, 0] rfl)
    · have h := (if_pos cc1).symm.trans h
      refine lv_bipush (v := (-3)) hx hb dX9_bench_73 (by decide) ?_
      obtain rfl := Option.some.inj h
      exact eI C0 hPD.1 hPD.2 hS rfl dX9_bench_75
set_option maxRecDepth 100000 in
set_option maxHeartbeats 4000000 in
theorem ww_f9_bench_l57  (C0 : Cx cX9_bench 5 (some .int) RX9 p s m args meth c G DA) {h0 : Nat} {a0 : Nat → Nat} {wk : Option Nat} {a1 : Nat → Nat} {f0 : Nat → Int32} {A1 : Nat → Nat → Int32} {p1 : Int32} {p2 : Int32} {p3 : Int32}   {res : Int32 × (Nat → Nat → Int32) × (Nat → Int32)}  : ∀ (n : Nat) (A0 : Nat → Nat → Int32) (f1 : Nat → Int32) (l4 : Int32), f9_bench_l57 f0 A1 p1 p2 p3  n A0 f1 l4 = some res → ∀ (H : Heap) (locs : List Loc) (ls : Array Slot), WD G DA (wX9 G h0 a0 wk f0 A0 ++ (wX7 G (a0 0) a1 f1 A1)) H → va_S DA s.heap H locs → lv_has ls 5 [(0, .ref h0), (1, .int p1), (2, .int p2), (3, .int p3), (4, .int l4)] → W p l e rmX9_bench s m args below meth c H locs 0 0 (MQ below (QI G DA res.1 (wX9 G h0 a0 wk f0 res.2.1 ++ (wX7 G (a0 0) a1 res.2.2 A1))) args s 0 0 DA) (F0 m 57 ls []) := by
  intro n
  induction n with
  | zero => intro A0 f1 l4 h; cases h
  | succ n ih => intro A0 f1 l4 h; exact ww_f9_bench_b57 C0  ih A0 f1 l4 h
set_option maxRecDepth 100000 in
set_option maxHeartbeats 4000000 in
theorem kt_X9_bench (l : Launch) (G : Gp) (h0 : Nat) (a0 : Nat → Nat) (wk : Option Nat) (a1 : Nat → Nat) (f0 : Nat → Int32) (A0 : Nat → Nat → Int32) (f1 : Nat → Int32) (A1 : Nat → Nat → Int32) (p1 : Int32) (p2 : Int32) (p3 : Int32) : ∀ {r : Int32 × (Nat → Nat → Int32) × (Nat → Int32)}, f9_bench f0 A0 f1 A1 p1 p2 p3 = some r → CtrI l yX9_bench cX9_bench 5 (some .int) rmX9_bench G [.ref h0, .int p1, .int p2, .int p3] (wX9 G h0 a0 wk f0 A0 ++ (wX7 G (a0 0) a1 f1 A1)) r.1 (wX9 G h0 a0 wk f0 r.2.1 ++ (wX7 G (a0 0) a1 r.2.2 A1)) := by
  intro res h
  refine ctrI_of (cc := cX9_bench) (maxL := 5) (ret := (some .int)) (by decide +kernel) rfl (Nat.le_of_ble_eq_true rfl) (fun p e s m below meth c DA C0 hP hD ls hl => ?_)
  have hPD : WD G DA (wX9 G h0 a0 wk f0 A0 ++ (wX7 G (a0 0) a1 f1 A1)) s.heap := ⟨hP, hD⟩
  have hS : va_S DA s.heap s.heap [] := va_S.rf
  have hl : lv_has ls 5 [(0, .ref h0), (1, .int p1), (2, .int p2), (3, .int p3)] := hl
  obtain ⟨hx, hb, hml, hown, hts⟩ := C0.1
  have hK := C0.2.2.2.1
  unfold f9_bench at h
  refine lv_iload_n hx hb dX9_bench_0 rfl (lv_at hl 1 rfl) ?_
  refine lv_iconst (v := 2) hx hb dX9_bench_1 (by decide) ?_
  refine lv_bipush (v := 6) hx hb dX9_bench_2 (by decide) ?_
  refine kSI (As := [.int p1, .int 2, .int 6]) (rest := []) C0 (kt_X9_within l G  p1 2 6) gi_S_X9_90_X9_within (n := 3) rfl (by decide +kernel) ⟨rfl, rfl, Nat.le_of_ble_eq_true rfl, Nat.le_of_ble_eq_true rfl⟩ hPD hS [] [0, 1, 2, 3] [0, 1, 2, 3] (wr := (wX9 G h0 a0 wk f0 A0 ++ (wX7 G (a0 0) a1 f1 A1))) (wN := (wX9 G h0 a0 wk f0 A0 ++ (wX7 G (a0 0) a1 f1 A1))) rfl rfl rfl rfl rfl hl.1 (Nat.le_of_ble_eq_true rfl) dX9_bench_4 (fun H locs hPD hS => ?_)
  refine lv_if_eq (tgt := 42) hx hb dX9_bench_7 (by decide) (fun cc1 => ?_) (fun cc1 => ?_)
  · have h := (if_pos cc1).symm.trans h
    refine lv_iconst (v := (-1)) hx hb dX9_bench_42 (by decide) ?_
    obtain rfl := Option.some.inj h
    exact eI C0 hPD.1 hPD.2 hS rfl dX9_bench_43
  · have h := (if_neg cc1).symm.trans h
    refine lv_iload_n hx hb dX9_bench_10 rfl (lv_at hl 2 rfl) ?_
    refine lv_iconst (v := 1) hx hb dX9_bench_11 (by decide) ?_
    refine lv_bipush (v := 9) hx hb dX9_bench_12 (by decide) ?_
    refine kSI (As := [.int p2, .int 1, .int 9]) (rest := []) C0 (kt_X9_within l G  p2 1 9) gi_S_X9_90_X9_within (n := 3) rfl (by decide +kernel) ⟨rfl, rfl, Nat.le_of_ble_eq_true rfl, Nat.le_of_ble_eq_true rfl⟩ hPD hS [] [0, 1, 2, 3] [0, 1, 2, 3] (wr := (wX9 G h0 a0 wk f0 A0 ++ (wX7 G (a0 0) a1 f1 A1))) (wN := (wX9 G h0 a0 wk f0 A0 ++ (wX7 G (a0 0) a1 f1 A1))) rfl rfl rfl rfl rfl hl.1 (Nat.le_of_ble_eq_true rfl) dX9_bench_14 (fun H locs hPD hS => ?_)
    refine lv_if_eq (tgt := 42) hx hb dX9_bench_17 (by decide) (fun cc1 => ?_) (fun cc1 => ?_)
    · have h := (if_pos cc1).symm.trans h
      refine lv_iconst (v := (-1)) hx hb dX9_bench_42 (by decide) ?_
      obtain rfl := Option.some.inj h
      exact eI C0 hPD.1 hPD.2 hS rfl dX9_bench_43
    · have h := (if_neg cc1).symm.trans h
      refine lv_iload_n hx hb dX9_bench_20 rfl (lv_at hl 3 rfl) ?_
      refine lv_iconst (v := 0) hx hb dX9_bench_21 (by decide) ?_
      refine lv_iconst (v := 2) hx hb dX9_bench_22 (by decide) ?_
      refine kSI (As := [.int p3, .int 0, .int 2]) (rest := []) C0 (kt_X9_within l G  p3 0 2) gi_S_X9_90_X9_within (n := 3) rfl (by decide +kernel) ⟨rfl, rfl, Nat.le_of_ble_eq_true rfl, Nat.le_of_ble_eq_true rfl⟩ hPD hS [] [0, 1, 2, 3] [0, 1, 2, 3] (wr := (wX9 G h0 a0 wk f0 A0 ++ (wX7 G (a0 0) a1 f1 A1))) (wN := (wX9 G h0 a0 wk f0 A0 ++ (wX7 G (a0 0) a1 f1 A1))) rfl rfl rfl rfl rfl hl.1 (Nat.le_of_ble_eq_true rfl) dX9_bench_23 (fun H locs hPD hS => ?_)
      refine lv_if_eq (tgt := 42) hx hb dX9_bench_26 (by decide) (fun cc1 => ?_) (fun cc1 => ?_)
      · have h := (if_pos cc1).symm.trans h
        refine lv_iconst (v := (-1)) hx hb dX9_bench_42 (by decide) ?_
        obtain rfl := Option.some.inj h
        exact eI C0 hPD.1 hPD.2 hS rfl dX9_bench_43
      · have h := (if_neg cc1).symm.trans h
        refine lv_aload_n hx hb dX9_bench_29 rfl (lv_at hl 0 rfl) ?_
        refine va_get (D := G.1) (ci := 9) (v := .ref (a0 0)) (C := RX9) (T := TX9) (N := 15) hx hb hts inlX9 hown hK hPD.1 0 rfl rfl 0 (by decide) (hts _ gw_363) (fun _ h9 => h9) rfl dX9_bench_30 ?_
        refine lv_iload_n hx hb dX9_bench_33 rfl (lv_at hl 1 rfl) ?_
        refine lv_iload_n hx hb dX9_bench_34 rfl (lv_at hl 2 rfl) ?_
        refine lv_imul hx hb dX9_bench_35 ?_
        refine kVI (As := [.int (p1 * p2)]) (rest := []) C0 (kt_X7_holds l G (a0 0) a1 f1 A1 (p1 * p2)) gi_V_X9_132_X7_holds (n := 1) rfl (by decide +kernel) rfl ⟨rfl, rfl, Nat.le_of_ble_eq_true rfl, Nat.le_of_ble_eq_true rfl⟩ hPD hS 2 7 rfl rfl rfl [2, 3] [0, 1] [0, 1, 2, 3] (wr := (wX9 G h0 a0 wk f0 A0)) (wN := (wX9 G h0 a0 wk f0 A0 ++ (wX7 G (a0 0) a1 f1 A1))) rfl rfl rfl rfl rfl hl.1 (Nat.le_of_ble_eq_true rfl) dX9_bench_36 (fun H locs hPD hS => ?_)
        refine lv_if_ne (tgt := 44) hx hb dX9_bench_39 (by decide) (fun cc1 => ?_) (fun cc1 => ?_)
        · have h := (if_neg cc1).symm.trans h
          refine lv_aload_n hx hb dX9_bench_44 rfl (lv_at hl 0 rfl) ?_
          refine va_get (D := G.1) (ci := 9) (v := .ref (a0 0)) (C := RX9) (T := TX9) (N := 15) hx hb hts inlX9 hown hK hPD.1 0 rfl rfl 0 (by decide) (hts _ gw_363) (fun _ h9 => h9) rfl dX9_bench_45 ?_
          refine lv_iload_n hx hb dX9_bench_48 rfl (lv_at hl 1 rfl) ?_
          refine lv_iload_n hx hb dX9_bench_49 rfl (lv_at hl 2 rfl) ?_
          refine lv_imul hx hb dX9_bench_50 ?_
          obtain ⟨z_1, ez_1, h⟩ := lvl h
          have kc := kt_X7_open l G (a0 0) a1 f1 A1 (p1 * p2)
          rw [← ez_1] at kc
          clear ez_1
          refine kVV (As := [.int (p1 * p2)]) (rest := []) C0 (kc) gi_V_X9_135_X7_open (n := 1) rfl (by decide +kernel) rfl ⟨rfl, rfl, Nat.le_of_ble_eq_true rfl, Nat.le_of_ble_eq_true rfl⟩ hPD hS 2 7 rfl rfl rfl [2, 3] [0, 1] [0, 1, 2, 3] (wr := (wX9 G h0 a0 wk f0 A0)) (wN := (wX9 G h0 a0 wk f0 A0 ++ (wX7 G (a0 0) a1 z_1 A1))) rfl rfl rfl rfl rfl hl.1 (Nat.le_of_ble_eq_true rfl) dX9_bench_51 (fun H locs hPD hS => ?_)
          refine lv_iconst (v := 0) hx hb dX9_bench_54 (by decide) ?_
          refine lv_istore (lv' := [(4, .int 0), (0, .ref h0), (1, .int p1), (2, .int p2), (3, .int p3)]) hx hb dX9_bench_55 hl (by decide) rfl (fun ls hl => ?_)
          exact ww_f9_bench_l57 C0 NF A0 z_1 0 h _ _ _ hPD hS (lv_sub hl [1, 2, 3, 4, 0] rfl)
        · have h := (if_pos cc1).symm.trans h
          refine lv_iconst (v := (-1)) hx hb dX9_bench_42 (by decide) ?_
          obtain rfl := Option.some.inj h
          exact eI C0 hPD.1 hPD.2 hS rfl dX9_bench_43
end WALK
