section WALK
variable {p : Program} {l : Launch} {e : Env} {s : State} {m : MethodId} {args : Array Value} {below : List Frame} {meth : Method} {c : Code} {G : Gp} {DA : Nat → Prop}
abbrev rmX9_twosAlike : Room := { frames := 2, cells := 0, slots := 0, locals := 46 }
set_option maxRecDepth 100000 in
set_option maxHeartbeats 4000000 in
theorem ww_f9_twosAlike_b17  (C0 : Cx cX9_twosAlike 6 (some .int) RX9 p s m args meth c G DA) {h0 : Nat} {a0 : Nat → Nat} {wk : Option Nat} {f0 : Nat → Int32} {A0 : Nat → Nat → Int32} {p1 : Int32} {p2 : Int32}  {k5 : Int32 → Int32 → Option (Int32)} {k17 : Int32 → Int32 → Int32 → Option (Int32)} {res : Int32} (hk5 : ∀ (l3 : Int32) (l4 : Int32), k5 l3 l4 = some res → ∀ (H : Heap) (locs : List Loc) (ls : Array Slot), WD G DA (wX9 G h0 a0 wk f0 A0) H → va_S DA s.heap H locs → lv_has ls 6 [(0, .ref h0), (1, .int p1), (2, .int p2), (3, .int l3), (4, .int l4)] → W p l e rmX9_twosAlike s m args below meth c H locs 0 0 (MQ below (QI G DA res (wX9 G h0 a0 wk f0 A0)) args s 0 0 DA) (F0 m 5 ls [])) (hk17 : ∀ (l3 : Int32) (l4 : Int32) (l5 : Int32), k17 l3 l4 l5 = some res → ∀ (H : Heap) (locs : List Loc) (ls : Array Slot), WD G DA (wX9 G h0 a0 wk f0 A0) H → va_S DA s.heap H locs → lv_has ls 6 [(0, .ref h0), (1, .int p1), (2, .int p2), (3, .int l3), (4, .int l4), (5, .int l5)] → W p l e rmX9_twosAlike s m args below meth c H locs 0 0 (MQ below (QI G DA res (wX9 G h0 a0 wk f0 A0)) args s 0 0 DA) (F0 m 17 ls [])) : ∀ (l3 : Int32) (l4 : Int32) (l5 : Int32), f9_twosAlike_b17 f0 A0 p1 p2 k5 k17 l3 l4 l5 = some res → ∀ (H : Heap) (locs : List Loc) (ls : Array Slot), WD G DA (wX9 G h0 a0 wk f0 A0) H → va_S DA s.heap H locs → lv_has ls 6 [(0, .ref h0), (1, .int p1), (2, .int p2), (3, .int l3), (4, .int l4), (5, .int l5)] → W p l e rmX9_twosAlike s m args below meth c H locs 0 0 (MQ below (QI G DA res (wX9 G h0 a0 wk f0 A0)) args s 0 0 DA) (F0 m 17 ls []) := by
  obtain ⟨hx, hb, hml, hown, hts⟩ := C0.1
  have hK := C0.2.2.2.1
  intro l3 l4 l5 h _ _ _ hPD hS hl
  unfold f9_twosAlike_b17 at h
  refine lv_iload hx hb dX9_twosAlike_17 (lv_at hl 5 rfl) ?_
  refine lv_iload_n hx hb dX9_twosAlike_19 rfl (lv_at hl 1 rfl) ?_
  refine lv_icmp_ge (tgt := 47) hx hb dX9_twosAlike_20 (by decide) (fun cc1 => ?_) (fun cc1 => ?_)
  · have h := (if_pos cc1).symm.trans h
    refine lv_iinc (v := l4 + 1) (lv' := [(4, .int (l4 + 1)), (0, .ref h0), (1, .int p1), (2, .int p2), (3, .int l3), (5, .int l5)]) hx hb dX9_twosAlike_47 hl (k := 4) rfl rfl (by decide) rfl (fun ls hl => ?_)
    refine lv_goto (tgt := 5) hx hb dX9_twosAlike_50 (by decide) ?_
    exact hk5 l3 (l4 + 1) h _ _ _ hPD hS (lv_sub hl [1, 2, 3, 4, 0] rfl)
  · have h := (if_neg cc1).symm.trans h
    refine lv_iconst (v := 2) hx hb dX9_twosAlike_23 (by decide) ?_
    refine lv_aload_n hx hb dX9_twosAlike_24 rfl (lv_at hl 0 rfl) ?_
    refine lv_iload hx hb dX9_twosAlike_25 (lv_at hl 4 rfl) ?_
    refine lv_iload hx hb dX9_twosAlike_27 (lv_at hl 5 rfl) ?_
    refine lv_iload_n hx hb dX9_twosAlike_29 rfl (lv_at hl 2 rfl) ?_
    obtain ⟨q_1, hq_1, h⟩ := ob2 h
    refine kVI (As := [.int l4, .int l5, .int p2]) (rest := [.int 2]) C0 (kt_X9_judgesFor l G h0 a0 wk f0 A0 l4 l5 p2 hq_1) gi_V_X9_293_X9_judgesFor (n := 3) rfl (by decide +kernel) rfl ⟨rfl, rfl, Nat.le_of_ble_eq_true rfl, Nat.le_of_ble_eq_true rfl⟩ hPD hS 0 9 rfl rfl rfl [0, 1] [] [0, 1] (wN := (wX9 G h0 a0 wk f0 A0)) rfl rfl rfl rfl rfl hl.1 (Nat.le_of_ble_eq_true rfl) dX9_twosAlike_30 (fun H locs hPD hS => ?_)
    refine lv_imul hx hb dX9_twosAlike_33 ?_
    refine lv_iload_n hx hb dX9_twosAlike_34 rfl (lv_at hl 2 rfl) ?_
    refine lv_icmp_ne (tgt := 41) hx hb dX9_twosAlike_35 (by decide) (fun cc1 => ?_) (fun cc1 => ?_)
    · have h := (if_neg cc1).symm.trans h
      refine lv_iinc (v := l5 + 1) (lv' := [(5, .int (l5 + 1)), (0, .ref h0), (1, .int p1), (2, .int p2), (3, .int l3), (4, .int l4)]) hx hb dX9_twosAlike_41 hl (k := 5) rfl rfl (by decide) rfl (fun ls hl => ?_)
      refine lv_goto (tgt := 17) hx hb dX9_twosAlike_44 (by decide) ?_
      exact hk17 l3 l4 (l5 + 1) h _ _ _ hPD hS (lv_sub hl [1, 2, 3, 4, 5, 0] rfl)
    · have h := (if_pos cc1).symm.trans h
      refine lv_iinc (v := l3 + 1) (lv' := [(3, .int (l3 + 1)), (0, .ref h0), (1, .int p1), (2, .int p2), (4, .int l4), (5, .int l5)]) hx hb dX9_twosAlike_38 hl (k := 3) rfl rfl (by decide) rfl (fun ls hl => ?_)
      refine lv_iinc (v := l5 + 1) (lv' := [(5, .int (l5 + 1)), (3, .int (l3 + 1)), (0, .ref h0), (1, .int p1), (2, .int p2), (4, .int l4)]) hx hb dX9_twosAlike_41 hl (k := 5) rfl rfl (by decide) rfl (fun ls hl => ?_)
      refine lv_goto (tgt := 17) hx hb dX9_twosAlike_44 (by decide) ?_
      exact hk17 (l3 + 1) l4 (l5 + 1) h _ _ _ hPD hS (lv_sub hl [2, 3, 4, 1, 5, 0] rfl)
set_option maxRecDepth 100000 in
set_option maxHeartbeats 4000000 in
theorem ww_f9_twosAlike_l17  (C0 : Cx cX9_twosAlike 6 (some .int) RX9 p s m args meth c G DA) {h0 : Nat} {a0 : Nat → Nat} {wk : Option Nat} {f0 : Nat → Int32} {A0 : Nat → Nat → Int32} {p1 : Int32} {p2 : Int32}  {k5 : Int32 → Int32 → Option (Int32)} {res : Int32} (hk5 : ∀ (l3 : Int32) (l4 : Int32), k5 l3 l4 = some res → ∀ (H : Heap) (locs : List Loc) (ls : Array Slot), WD G DA (wX9 G h0 a0 wk f0 A0) H → va_S DA s.heap H locs → lv_has ls 6 [(0, .ref h0), (1, .int p1), (2, .int p2), (3, .int l3), (4, .int l4)] → W p l e rmX9_twosAlike s m args below meth c H locs 0 0 (MQ below (QI G DA res (wX9 G h0 a0 wk f0 A0)) args s 0 0 DA) (F0 m 5 ls [])) : ∀ (n : Nat) (l3 : Int32) (l4 : Int32) (l5 : Int32), f9_twosAlike_l17 f0 A0 p1 p2 k5 n l3 l4 l5 = some res → ∀ (H : Heap) (locs : List Loc) (ls : Array Slot), WD G DA (wX9 G h0 a0 wk f0 A0) H → va_S DA s.heap H locs → lv_has ls 6 [(0, .ref h0), (1, .int p1), (2, .int p2), (3, .int l3), (4, .int l4), (5, .int l5)] → W p l e rmX9_twosAlike s m args below meth c H locs 0 0 (MQ below (QI G DA res (wX9 G h0 a0 wk f0 A0)) args s 0 0 DA) (F0 m 17 ls []) := by
  intro n
  induction n with
  | zero => intro l3 l4 l5 h; cases h
  | succ n ih => intro l3 l4 l5 h; exact ww_f9_twosAlike_b17 C0 hk5 ih l3 l4 l5 h
set_option maxRecDepth 100000 in
set_option maxHeartbeats 4000000 in
theorem ww_f9_twosAlike_b5  (C0 : Cx cX9_twosAlike 6 (some .int) RX9 p s m args meth c G DA) {h0 : Nat} {a0 : Nat → Nat} {wk : Option Nat} {f0 : Nat → Int32} {A0 : Nat → Nat → Int32} {p1 : Int32} {p2 : Int32}  {k5 : Int32 → Int32 → Option (Int32)} {res : Int32}  (hk5 : ∀ (l3 : Int32) (l4 : Int32), k5 l3 l4 = some res → ∀ (H : Heap) (locs : List Loc) (ls : Array Slot), WD G DA (wX9 G h0 a0 wk f0 A0) H → va_S DA s.heap H locs → lv_has ls 6 [(0, .ref h0), (1, .int p1), (2, .int p2), (3, .int l3), (4, .int l4)] → W p l e rmX9_twosAlike s m args below meth c H locs 0 0 (MQ below (QI G DA res (wX9 G h0 a0 wk f0 A0)) args s 0 0 DA) (F0 m 5 ls [])) : ∀ (l3 : Int32) (l4 : Int32), f9_twosAlike_b5 f0 A0 p1 p2  k5 l3 l4 = some res → ∀ (H : Heap) (locs : List Loc) (ls : Array Slot), WD G DA (wX9 G h0 a0 wk f0 A0) H → va_S DA s.heap H locs → lv_has ls 6 [(0, .ref h0), (1, .int p1), (2, .int p2), (3, .int l3), (4, .int l4)] → W p l e rmX9_twosAlike s m args below meth c H locs 0 0 (MQ below (QI G DA res (wX9 G h0 a0 wk f0 A0)) args s 0 0 DA) (F0 m 5 ls []) := by
  obtain ⟨hx, hb, hml, hown, hts⟩ := C0.1
  have hK := C0.2.2.2.1
  intro l3 l4 h _ _ _ hPD hS hl
  unfold f9_twosAlike_b5 at h
  refine lv_iload hx hb dX9_twosAlike_5 (lv_at hl 4 rfl) ?_
  refine lv_iload_n hx hb dX9_twosAlike_7 rfl (lv_at hl 1 rfl) ?_
  refine lv_icmp_ge (tgt := 53) hx hb dX9_twosAlike_8 (by decide) (fun cc1 => ?_) (fun cc1 => ?_)
  · have h := (if_pos cc1).symm.trans h
    refine lv_iload_n hx hb dX9_twosAlike_53 rfl (lv_at hl 3 rfl) ?_
    obtain rfl := Option.some.inj h
    exact eI C0 hPD.1 hPD.2 hS rfl dX9_twosAlike_54
  · have h := (if_neg cc1).symm.trans h
    refine lv_iload hx hb dX9_twosAlike_11 (lv_at hl 4 rfl) ?_
    refine lv_iconst (v := 1) hx hb dX9_twosAlike_13 (by decide) ?_
    refine lv_iadd hx hb dX9_twosAlike_14 ?_
    refine lv_istore (lv' := [(5, .int (l4 + 1)), (0, .ref h0), (1, .int p1), (2, .int p2), (3, .int l3), (4, .int l4)]) hx hb dX9_twosAlike_15 hl (by decide) rfl (fun ls hl => ?_)
    exact ww_f9_twosAlike_l17 C0 hk5 NF l3 l4 (l4 + 1) h _ _ _ hPD hS (lv_sub hl [1, 2, 3, 4, 5, 0] rfl)
set_option maxRecDepth 100000 in
set_option maxHeartbeats 4000000 in
theorem ww_f9_twosAlike_l5  (C0 : Cx cX9_twosAlike 6 (some .int) RX9 p s m args meth c G DA) {h0 : Nat} {a0 : Nat → Nat} {wk : Option Nat} {f0 : Nat → Int32} {A0 : Nat → Nat → Int32} {p1 : Int32} {p2 : Int32}   {res : Int32}  : ∀ (n : Nat) (l3 : Int32) (l4 : Int32), f9_twosAlike_l5 f0 A0 p1 p2  n l3 l4 = some res → ∀ (H : Heap) (locs : List Loc) (ls : Array Slot), WD G DA (wX9 G h0 a0 wk f0 A0) H → va_S DA s.heap H locs → lv_has ls 6 [(0, .ref h0), (1, .int p1), (2, .int p2), (3, .int l3), (4, .int l4)] → W p l e rmX9_twosAlike s m args below meth c H locs 0 0 (MQ below (QI G DA res (wX9 G h0 a0 wk f0 A0)) args s 0 0 DA) (F0 m 5 ls []) := by
  intro n
  induction n with
  | zero => intro l3 l4 h; cases h
  | succ n ih => intro l3 l4 h; exact ww_f9_twosAlike_b5 C0  ih l3 l4 h
set_option maxRecDepth 100000 in
set_option maxHeartbeats 4000000 in
theorem kt_X9_twosAlike (l : Launch) (G : Gp) (h0 : Nat) (a0 : Nat → Nat) (wk : Option Nat) (f0 : Nat → Int32) (A0 : Nat → Nat → Int32) (p1 : Int32) (p2 : Int32) : ∀ {r : Int32}, f9_twosAlike f0 A0 p1 p2 = some r → CtrI l yX9_twosAlike cX9_twosAlike 6 (some .int) rmX9_twosAlike G [.ref h0, .int p1, .int p2] (wX9 G h0 a0 wk f0 A0) r (wX9 G h0 a0 wk f0 A0) := by
  intro res h
  refine ctrI_of (cc := cX9_twosAlike) (maxL := 6) (ret := (some .int)) (by decide +kernel) rfl (Nat.le_of_ble_eq_true rfl) (fun p e s m below meth c DA C0 hP hD ls hl => ?_)
  have hPD : WD G DA (wX9 G h0 a0 wk f0 A0) s.heap := ⟨hP, hD⟩
  have hS : va_S DA s.heap s.heap [] := va_S.rf
  have hl : lv_has ls 6 [(0, .ref h0), (1, .int p1), (2, .int p2)] := hl
  obtain ⟨hx, hb, hml, hown, hts⟩ := C0.1
  have hK := C0.2.2.2.1
  unfold f9_twosAlike at h
  refine lv_iconst (v := 0) hx hb dX9_twosAlike_0 (by decide) ?_
  refine lv_istore_n (lv' := [(3, .int 0), (0, .ref h0), (1, .int p1), (2, .int p2)]) hx hb dX9_twosAlike_1 rfl hl (by decide) rfl (fun ls hl => ?_)
  refine lv_iconst (v := 0) hx hb dX9_twosAlike_2 (by decide) ?_
  refine lv_istore (lv' := [(4, .int 0), (3, .int 0), (0, .ref h0), (1, .int p1), (2, .int p2)]) hx hb dX9_twosAlike_3 hl (by decide) rfl (fun ls hl => ?_)
  exact ww_f9_twosAlike_l5 C0 NF 0 0 h _ _ _ hPD hS (lv_sub hl [2, 3, 4, 1, 0] rfl)
abbrev rmX9_bench : Room := { frames := 3, cells := 0, slots := 0, locals := 71 }
set_option maxRecDepth 100000 in
set_option maxHeartbeats 4000000 in
theorem ww_f9_bench_b57  (C0 : Cx cX9_bench 5 (some .int) RX9 p s m args meth c G DA) {h0 : Nat} {a0 : Nat → Nat} {wk : Option Nat} {a1 : Nat → Nat} {f0 : Nat → Int32} {A1 : Nat → Nat → Int32} {p1 : Int32} {p2 : Int32} {p3 : Int32}  {k57 : (Nat → Nat → Int32) → (Nat → Int32) → Int32 → Option (Int32 × (Nat → Nat → Int32) × (Nat → Int32))} {res : Int32 × (Nat → Nat → Int32) × (Nat → Int32)}  (hk57 : ∀ (A0 : Nat → Nat → Int32) (f1 : Nat → Int32) (l4 : Int32), k57 A0 f1 l4 = some res → ∀ (H : Heap) (locs : List Loc) (ls : Array Slot), WD G DA (wX9 G h0 a0 wk f0 A0 ++ (wX7 G (a0 0) a1 f1 A1)) H → va_S DA s.heap H locs → lv_has ls 5 [(0, .ref h0), (1, .int p1), (2, .int p2), (3, .int p3), (4, .int l4)] → W p l e rmX9_bench s m args below meth c H locs 0 0 (MQ below (QI G DA res.1 (wX9 G h0 a0 wk f0 res.2.1 ++ (wX7 G (a0 0) a1 res.2.2 A1))) args s 0 0 DA) (F0 m 57 ls [])) : ∀ (A0 : Nat → Nat → Int32) (f1 : Nat → Int32) (l4 : Int32), f9_bench_b57 f0 A1 p1 p2 p3  k57 A0 f1 l4 = some res → ∀ (H : Heap) (locs : List Loc) (ls : Array Slot), WD G DA (wX9 G h0 a0 wk f0 A0 ++ (wX7 G (a0 0) a1 f1 A1)) H → va_S DA s.heap H locs → lv_has ls 5 [(0, .ref h0), (1, .int p1), (2, .int p2), (3, .int p3), (4, .int l4)] → W p l e rmX9_bench s m args below meth c H locs 0 0 (MQ below (QI G DA res.1 (wX9 G h0 a0 wk f0 res.2.1 ++ (wX7 G (a0 0) a1 res.2.2 A1))) args s 0 0 DA) (F0 m 57 ls []) := by
  obtain ⟨hx, hb, hml, hown, hts⟩ := C0.1
  have hK := C0.2.2.2.1
  intro A0 f1 l4 h _ _ _ hPD hS hl
  unfold f9_bench_b57 at h
  refine lv_iload hx hb dX9_bench_57 (lv_at hl 4 rfl) ?_
  refine lv_iload_n hx hb dX9_bench_59 rfl (lv_at hl 2 rfl) ?_
  refine lv_icmp_ge (tgt := 82) hx hb dX9_bench_60 (by decide) (fun cc1 => ?_) (fun cc1 => ?_)
  · have h := (if_pos cc1).symm.trans h
    refine lv_iload_n hx hb dX9_bench_82 rfl (lv_at hl 3 rfl) ?_
    refine lv_if_ne (tgt := 93) hx hb dX9_bench_83 (by decide) (fun cc1 => ?_) (fun cc1 => ?_)
    · have h := (if_neg cc1).symm.trans h
      refine lv_iload_n hx hb dX9_bench_93 rfl (lv_at hl 3 rfl) ?_
      refine lv_iconst (v := 1) hx hb dX9_bench_94 (by decide) ?_
      refine lv_icmp_ne (tgt := 107) hx hb dX9_bench_95 (by decide) (fun cc1 => ?_) (fun cc1 => ?_)
      · have h := (if_neg cc1).symm.trans h
        refine lv_aload_n hx hb dX9_bench_107 rfl (lv_at hl 0 rfl) ?_
        refine lv_iload_n hx hb dX9_bench_108 rfl (lv_at hl 1 rfl) ?_
        refine lv_iload_n hx hb dX9_bench_109 rfl (lv_at hl 2 rfl) ?_
        obtain ⟨q_1, hq_1, h⟩ := ob2 h
        refine kVI (As := [.int p1, .int p2]) (rest := []) C0 (kt_X9_twosAlike l G h0 a0 wk f0 A0 p1 p2 hq_1) gi_V_X9_287_X9_twosAlike (n := 2) rfl (by decide +kernel) rfl ⟨rfl, rfl, Nat.le_of_ble_eq_true rfl, Nat.le_of_ble_eq_true rfl⟩ hPD hS 0 9 rfl rfl rfl [0, 1] [2, 3] [2, 3, 0, 1] (wN := (wX9 G h0 a0 wk f0 A0 ++ (wX7 G (a0 0) a1 f1 A1))) rfl rfl rfl rfl rfl hl.1 (Nat.le_of_ble_eq_true rfl) dX9_bench_110 (fun H locs hPD hS => ?_)
        obtain rfl := Option.some.inj h
        exact eI C0 hPD.1 hPD.2 hS rfl dX9_bench_113
      · have h := (if_pos cc1).symm.trans h
        refine lv_aload_n hx hb dX9_bench_98 rfl (lv_at hl 0 rfl) ?_
        refine lv_iload_n hx hb dX9_bench_99 rfl (lv_at hl 1 rfl) ?_
        refine lv_iload_n hx hb dX9_bench_100 rfl (lv_at hl 2 rfl) ?_
        obtain ⟨q_2, hq_2, h⟩ := ob2 h
        refine kVI (As := [.int p1, .int p2]) (rest := []) C0 (kt_X9_fewestPlaces l G h0 a0 wk f0 A0 p1 p2 hq_2) gi_V_X9_284_X9_fewestPlaces (n := 2) rfl (by decide +kernel) rfl ⟨rfl, rfl, Nat.le_of_ble_eq_true rfl, Nat.le_of_ble_eq_true rfl⟩ hPD hS 0 9 rfl rfl rfl [0, 1] [2, 3] [2, 3, 0, 1] (wN := (wX9 G h0 a0 wk f0 A0 ++ (wX7 G (a0 0) a1 f1 A1))) rfl rfl rfl rfl rfl hl.1 (Nat.le_of_ble_eq_true rfl) dX9_bench_101 (fun H locs hPD hS => ?_)
        refine lv_goto (tgt := 113) hx hb dX9_bench_104 (by decide) ?_
        obtain rfl := Option.some.inj h
        exact eI C0 hPD.1 hPD.2 hS rfl dX9_bench_113
    · have h := (if_pos cc1).symm.trans h
      refine lv_aload_n hx hb dX9_bench_86 rfl (lv_at hl 0 rfl) ?_
      refine lv_iload_n hx hb dX9_bench_87 rfl (lv_at hl 1 rfl) ?_
      refine lv_iload_n hx hb dX9_bench_88 rfl (lv_at hl 2 rfl) ?_
      obtain ⟨q_3, hq_3, h⟩ := ob2 h
      refine kVI (As := [.int p1, .int p2]) (rest := []) C0 (kt_X9_beatsAllOthers l G h0 a0 wk f0 A0 p1 p2 hq_3) gi_V_X9_281_X9_beatsAllOthers (n := 2) rfl (by decide +kernel) rfl ⟨rfl, rfl, Nat.le_of_ble_eq_true rfl, Nat.le_of_ble_eq_true rfl⟩ hPD hS 0 9 rfl rfl rfl [0, 1] [2, 3] [2, 3, 0, 1] (wN := (wX9 G h0 a0 wk f0 A0 ++ (wX7 G (a0 0) a1 f1 A1))) rfl rfl rfl rfl rfl hl.1 (Nat.le_of_ble_eq_true rfl) dX9_bench_89 (fun H locs hPD hS => ?_)
      obtain rfl := Option.some.inj h
      exact eI C0 hPD.1 hPD.2 hS rfl dX9_bench_92
  · have h := (if_neg cc1).symm.trans h
    refine lv_aload_n hx hb dX9_bench_63 rfl (lv_at hl 0 rfl) ?_
    refine lv_iload_n hx hb dX9_bench_64 rfl (lv_at hl 1 rfl) ?_
    refine lv_iload hx hb dX9_bench_65 (lv_at hl 4 rfl) ?_
    obtain ⟨q_4, hq_4, h⟩ := ob2 h
    refine kVI (As := [.int p1, .int l4]) (rest := []) C0 (kt_X9_takesRanking l G h0 a0 wk a1 f0 A0 f1 A1 p1 l4 hq_4) gi_V_X9_278_X9_takesRanking (n := 2) rfl (by decide +kernel) rfl ⟨rfl, rfl, Nat.le_of_ble_eq_true rfl, Nat.le_of_ble_eq_true rfl⟩ hPD hS 0 9 rfl rfl rfl [0, 1, 2, 3] [] [0, 1, 2, 3] (wN := (wX9 G h0 a0 wk f0 q_4.2 ++ (wX7 G (a0 0) a1 f1 A1))) rfl rfl rfl rfl rfl hl.1 (Nat.le_of_ble_eq_true rfl) dX9_bench_67 (fun H locs hPD hS => ?_)
    refine lv_if_ne (tgt := 76) hx hb dX9_bench_70 (by decide) (fun cc1 => ?_) (fun cc1 => ?_)
    · have h := (if_neg cc1).symm.trans h
      refine lv_iinc (v := l4 + 1) (lv' := [(4, .int (l4 + 1)), (0, .ref h0), (1, .int p1), (2, .int p2), (3, .int p3)]) hx hb dX9_bench_76 hl (k := 4) rfl rfl (by decide) rfl (fun ls hl => ?_)
      refine lv_goto (tgt := 57) hx hb dX9_bench_79 (by decide) ?_
      exact hk57 q_4.2 f1 (l4 + 1) h _ _ _ hPD hS (lv_sub hl [1, 2, 3, 4, 0] rfl)
    · have h := (if_pos cc1).symm.trans h
      refine lv_bipush (v := (-3)) hx hb dX9_bench_73 (by decide) ?_
      obtain rfl := Option.some.inj h
      exact eI C0 hPD.1 hPD.2 hS rfl dX9_bench_75
set_option maxRecDepth 100000 in
set_option maxHeartbeats 4000000 in
theorem ww_f9_bench_l57  (C0 : Cx cX9_bench 5 (some .int) RX9 p s m args meth c G DA) {h0 : Nat} {a0 : Nat → Nat} {wk : Option Nat} {a1 : Nat → Nat} {f0 : Nat → Int32} {A1 : Nat → Nat → Int32} {p1 : Int32} {p2 : Int32} {p3 : Int32}   {res : Int32 × (Nat → Nat → Int32) × (Nat → Int32)}  : ∀ (n : Nat) (A0 : Nat → Nat → Int32) (f1 : Nat → Int32) (l4 : Int32), f9_bench_l57 f0 A1 p1 p2 p3  n A0 f1 l4 = some res → ∀ (H : Heap) (locs : List Loc) (ls : Array Slot), WD G DA (wX9 G h0 a0 wk f0 A0 ++ (wX7 G (a0 0) a1 f1 A1)) H → va_S DA s.heap H locs → lv_has ls 5 [(0, .ref h0), (1, .int p1), (2, .int p2), (3, .int p3), (4, .int l4)] → W p l e rmX9_bench s m args below meth c H locs 0 0 (MQ below (QI G DA res.1 (wX9 G h0 a0 wk f0 res.2.1 ++ (wX7 G (a0 0) a1 res.2.2 A1))) args s 0 0 DA) (F0 m 57 ls []) := by
  intro n
  induction n with
  | zero => intro A0 f1 l4 h; cases h
  | succ n ih => intro A0 f1 l4 h; exact ww_f9_bench_b57 C0  ih A0 f1 l4 h
set_option maxRecDepth 100000 in
set_option maxHeartbeats 4000000 in
theorem kt_X9_bench (l : Launch) (G : Gp) (h0 : Nat) (a0 : Nat → Nat) (wk : Option Nat) (a1 : Nat → Nat) (f0 : Nat → Int32) (A0 : Nat → Nat → Int32) (f1 : Nat → Int32) (A1 : Nat → Nat → Int32) (p1 : Int32) (p2 : Int32) (p3 : Int32) : ∀ {r : Int32 × (Nat → Nat → Int32) × (Nat → Int32)}, f9_bench f0 A0 f1 A1 p1 p2 p3 = some r → CtrI l yX9_bench cX9_bench 5 (some .int) rmX9_bench G [.ref h0, .int p1, .int p2, .int p3] (wX9 G h0 a0 wk f0 A0 ++ (wX7 G (a0 0) a1 f1 A1)) r.1 (wX9 G h0 a0 wk f0 r.2.1 ++ (wX7 G (a0 0) a1 r.2.2 A1)) := by
  intro res h
  refine ctrI_of (cc := cX9_bench) (maxL := 5) (ret := (some .int)) (by decide +kernel) rfl (Nat.le_of_ble_eq_true rfl) (fun p e s m below meth c DA C0 hP hD ls hl => ?_)
  have hPD : WD G DA (wX9 G h0 a0 wk f0 A0 ++ (wX7 G (a0 0) a1 f1 A1)) s.heap := ⟨hP, hD⟩
  have hS : va_S DA s.heap s.heap [] := va_S.rf
  have hl : lv_has ls 5 [(0, .ref h0), (1, .int p1), (2, .int p2), (3, .int p3)] := hl
  obtain ⟨hx, hb, hml, hown, hts⟩ := C0.1
  have hK := C0.2.2.2.1
  unfold f9_bench at h
  refine lv_iload_n hx hb dX9_bench_0 rfl (lv_at hl 1 rfl) ?_
  refine lv_iconst (v := 2) hx hb dX9_bench_1 (by decide) ?_
  refine lv_bipush (v := 6) hx hb dX9_bench_2 (by decide) ?_
  refine kSI (As := [.int p1, .int 2, .int 6]) (rest := []) C0 (kt_X9_within l G  p1 2 6) gi_S_X9_90_X9_within (n := 3) rfl (by decide +kernel) ⟨rfl, rfl, Nat.le_of_ble_eq_true rfl, Nat.le_of_ble_eq_true rfl⟩ hPD hS [] [0, 1, 2, 3] [0, 1, 2, 3] (wN := (wX9 G h0 a0 wk f0 A0 ++ (wX7 G (a0 0) a1 f1 A1))) rfl rfl rfl rfl rfl hl.1 (Nat.le_of_ble_eq_true rfl) dX9_bench_4 (fun H locs hPD hS => ?_)
  refine lv_if_eq (tgt := 42) hx hb dX9_bench_7 (by decide) (fun cc1 => ?_) (fun cc1 => ?_)
  · have h := (if_pos cc1).symm.trans h
    refine lv_iconst (v := (-1)) hx hb dX9_bench_42 (by decide) ?_
    obtain rfl := Option.some.inj h
    exact eI C0 hPD.1 hPD.2 hS rfl dX9_bench_43
  · have h := (if_neg cc1).symm.trans h
    refine lv_iload_n hx hb dX9_bench_10 rfl (lv_at hl 2 rfl) ?_
    refine lv_iconst (v := 1) hx hb dX9_bench_11 (by decide) ?_
    refine lv_bipush (v := 9) hx hb dX9_bench_12 (by decide) ?_
    refine kSI (As := [.int p2, .int 1, .int 9]) (rest := []) C0 (kt_X9_within l G  p2 1 9) gi_S_X9_90_X9_within (n := 3) rfl (by decide +kernel) ⟨rfl, rfl, Nat.le_of_ble_eq_true rfl, Nat.le_of_ble_eq_true rfl⟩ hPD hS [] [0, 1, 2, 3] [0, 1, 2, 3] (wN := (wX9 G h0 a0 wk f0 A0 ++ (wX7 G (a0 0) a1 f1 A1))) rfl rfl rfl rfl rfl hl.1 (Nat.le_of_ble_eq_true rfl) dX9_bench_14 (fun H locs hPD hS => ?_)
    refine lv_if_eq (tgt := 42) hx hb dX9_bench_17 (by decide) (fun cc1 => ?_) (fun cc1 => ?_)
    · have h := (if_pos cc1).symm.trans h
      refine lv_iconst (v := (-1)) hx hb dX9_bench_42 (by decide) ?_
      obtain rfl := Option.some.inj h
      exact eI C0 hPD.1 hPD.2 hS rfl dX9_bench_43
    · have h := (if_neg cc1).symm.trans h
      refine lv_iload_n hx hb dX9_bench_20 rfl (lv_at hl 3 rfl) ?_
      refine lv_iconst (v := 0) hx hb dX9_bench_21 (by decide) ?_
      refine lv_iconst (v := 2) hx hb dX9_bench_22 (by decide) ?_
      refine kSI (As := [.int p3, .int 0, .int 2]) (rest := []) C0 (kt_X9_within l G  p3 0 2) gi_S_X9_90_X9_within (n := 3) rfl (by decide +kernel) ⟨rfl, rfl, Nat.le_of_ble_eq_true rfl, Nat.le_of_ble_eq_true rfl⟩ hPD hS [] [0, 1, 2, 3] [0, 1, 2, 3] (wN := (wX9 G h0 a0 wk f0 A0 ++ (wX7 G (a0 0) a1 f1 A1))) rfl rfl rfl rfl rfl hl.1 (Nat.le_of_ble_eq_true rfl) dX9_bench_23 (fun H locs hPD hS => ?_)
      refine lv_if_eq (tgt := 42) hx hb dX9_bench_26 (by decide) (fun cc1 => ?_) (fun cc1 => ?_)
      · have h := (if_pos cc1).symm.trans h
        refine lv_iconst (v := (-1)) hx hb dX9_bench_42 (by decide) ?_
        obtain rfl := Option.some.inj h
        exact eI C0 hPD.1 hPD.2 hS rfl dX9_bench_43
      · have h := (if_neg cc1).symm.trans h
        refine lv_aload_n hx hb dX9_bench_29 rfl (lv_at hl 0 rfl) ?_
        refine va_get (D := G.1) (ci := 9) (v := .ref (a0 0)) (C := RX9) (T := TX9) (N := 15) hx hb hts inlX9 hown hK hPD.1 0 rfl rfl 0 (by decide) (hts _ gw_366) (fun _ h9 => h9) rfl dX9_bench_30 ?_
        refine lv_iload_n hx hb dX9_bench_33 rfl (lv_at hl 1 rfl) ?_
        refine lv_iload_n hx hb dX9_bench_34 rfl (lv_at hl 2 rfl) ?_
        refine lv_imul hx hb dX9_bench_35 ?_
        refine kVI (As := [.int (p1 * p2)]) (rest := []) C0 (kt_X7_holds l G (a0 0) a1 f1 A1 (p1 * p2)) gi_V_X9_132_X7_holds (n := 1) rfl (by decide +kernel) rfl ⟨rfl, rfl, Nat.le_of_ble_eq_true rfl, Nat.le_of_ble_eq_true rfl⟩ hPD hS 2 7 rfl rfl rfl [2, 3] [0, 1] [0, 1, 2, 3] (wN := (wX9 G h0 a0 wk f0 A0 ++ (wX7 G (a0 0) a1 f1 A1))) rfl rfl rfl rfl rfl hl.1 (Nat.le_of_ble_eq_true rfl) dX9_bench_36 (fun H locs hPD hS => ?_)
        refine lv_if_ne (tgt := 44) hx hb dX9_bench_39 (by decide) (fun cc1 => ?_) (fun cc1 => ?_)
        · have h := (if_neg cc1).symm.trans h
          refine lv_aload_n hx hb dX9_bench_44 rfl (lv_at hl 0 rfl) ?_
          refine va_get (D := G.1) (ci := 9) (v := .ref (a0 0)) (C := RX9) (T := TX9) (N := 15) hx hb hts inlX9 hown hK hPD.1 0 rfl rfl 0 (by decide) (hts _ gw_366) (fun _ h9 => h9) rfl dX9_bench_45 ?_
          refine lv_iload_n hx hb dX9_bench_48 rfl (lv_at hl 1 rfl) ?_
          refine lv_iload_n hx hb dX9_bench_49 rfl (lv_at hl 2 rfl) ?_
          refine lv_imul hx hb dX9_bench_50 ?_
          refine kVV (As := [.int (p1 * p2)]) (rest := []) C0 (kt_X7_open l G (a0 0) a1 f1 A1 (p1 * p2)) gi_V_X9_135_X7_open (n := 1) rfl (by decide +kernel) rfl ⟨rfl, rfl, Nat.le_of_ble_eq_true rfl, Nat.le_of_ble_eq_true rfl⟩ hPD hS 2 7 rfl rfl rfl [2, 3] [0, 1] [0, 1, 2, 3] (wN := (wX9 G h0 a0 wk f0 A0 ++ (wX7 G (a0 0) a1 (f7_open f1 A1 (p1 * p2)) A1))) rfl rfl rfl rfl rfl hl.1 (Nat.le_of_ble_eq_true rfl) dX9_bench_51 (fun H locs hPD hS => ?_)
          refine lv_iconst (v := 0) hx hb dX9_bench_54 (by decide) ?_
          refine lv_istore (lv' := [(4, .int 0), (0, .ref h0), (1, .int p1), (2, .int p2), (3, .int p3)]) hx hb dX9_bench_55 hl (by decide) rfl (fun ls hl => ?_)
          exact ww_f9_bench_l57 C0 NF A0 (f7_open f1 A1 (p1 * p2)) 0 h _ _ _ hPD hS (lv_sub hl [1, 2, 3, 4, 0] rfl)
        · have h := (if_pos cc1).symm.trans h
          refine lv_iconst (v := (-1)) hx hb dX9_bench_42 (by decide) ?_
          obtain rfl := Option.some.inj h
          exact eI C0 hPD.1 hPD.2 hS rfl dX9_bench_43
abbrev rmX9_isBeaten : Room := { frames := 2, cells := 0, slots := 0, locals := 42 }
set_option maxRecDepth 100000 in
set_option maxHeartbeats 4000000 in
theorem ww_f9_isBeaten_b28  (C0 : Cx cX9_isBeaten 8 (some .boolean) RX9 p s m args meth c G DA) {h0 : Nat} {a0 : Nat → Nat} {wk : Option Nat} {a1 : Nat → Nat} {f0 : Nat → Int32} {A0 : Nat → Nat → Int32} {f1 : Nat → Int32} {A1 : Nat → Nat → Int32} {p1 : Int32} {p2 : Int32}  {k28 : Int32 → Int32 → Int32 → Option (Int32)} {res : Int32}  (hk28 : ∀ (l3 : Int32) (l4 : Int32) (l5 : Int32), k28 l3 l4 l5 = some res → ∀ (H : Heap) (locs : List Loc) (ls : Array Slot), WD G DA (wX9 G h0 a0 wk f0 A0 ++ (wX7 G (a0 0) a1 f1 A1)) H → va_S DA s.heap H locs → lv_has ls 8 [(0, .ref h0), (1, .int p1), (2, .int p2), (3, .int l3), (4, .int l4), (5, .int l5)] → W p l e rmX9_isBeaten s m args below meth c H locs 0 0 (MQ below (QI G DA res (wX9 G h0 a0 wk f0 A0 ++ (wX7 G (a0 0) a1 f1 A1))) args s 0 0 DA) (F0 m 28 ls [])) : ∀ (l3 : Int32) (l4 : Int32) (l5 : Int32), f9_isBeaten_b28 f0 A0 f1 A1 p1 p2  k28 l3 l4 l5 = some res → ∀ (H : Heap) (locs : List Loc) (ls : Array Slot), WD G DA (wX9 G h0 a0 wk f0 A0 ++ (wX7 G (a0 0) a1 f1 A1)) H → va_S DA s.heap H locs → lv_has ls 8 [(0, .ref h0), (1, .int p1), (2, .int p2), (3, .int l3), (4, .int l4), (5, .int l5)] → W p l e rmX9_isBeaten s m args below meth c H locs 0 0 (MQ below (QI G DA res (wX9 G h0 a0 wk f0 A0 ++ (wX7 G (a0 0) a1 f1 A1))) args s 0 0 DA) (F0 m 28 ls []) := by
  obtain ⟨hx, hb, hml, hown, hts⟩ := C0.1
  have hK := C0.2.2.2.1
  intro l3 l4 l5 h _ _ _ hPD hS hl
  unfold f9_isBeaten_b28 at h
  refine lv_iload hx hb dX9_isBeaten_28 (lv_at hl 5 rfl) ?_
  refine lv_iload_n hx hb dX9_isBeaten_30 rfl (lv_at hl 2 rfl) ?_
  refine lv_icmp_ge (tgt := 93) hx hb dX9_isBeaten_31 (by decide) (fun cc1 => ?_) (fun cc1 => ?_)
  · have h := (if_pos cc1).symm.trans h
    refine lv_iconst (v := 0) hx hb dX9_isBeaten_93 (by decide) ?_
    obtain rfl := Option.some.inj h
    exact eZ C0 hPD.1 hPD.2 hS rfl rfl dX9_isBeaten_94
  · have h := (if_neg cc1).symm.trans h
    refine lv_aload_n hx hb dX9_isBeaten_34 rfl (lv_at hl 0 rfl) ?_
    refine va_get (D := G.1) (ci := 9) (v := .ref (a0 0)) (C := RX9) (T := TX9) (N := 15) hx hb hts inlX9 hown hK hPD.1 0 rfl rfl 0 (by decide) (hts _ gw_366) (fun _ h9 => h9) rfl dX9_isBeaten_35 ?_
    refine lv_iconst (v := 2) hx hb dX9_isBeaten_38 (by decide) ?_
    refine lv_iload hx hb dX9_isBeaten_39 (lv_at hl 5 rfl) ?_
    refine lv_imul hx hb dX9_isBeaten_41 ?_
    refine kVI (As := [.int (2 * l5)]) (rest := []) C0 (kt_X7_byteAt l G (a0 0) a1 f1 A1 (2 * l5)) gi_V_X9_224_X7_byteAt (n := 1) rfl (by decide +kernel) rfl ⟨rfl, rfl, Nat.le_of_ble_eq_true rfl, Nat.le_of_ble_eq_true rfl⟩ hPD hS 2 7 rfl rfl rfl [2, 3] [0, 1] [0, 1, 2, 3] (wN := (wX9 G h0 a0 wk f0 A0 ++ (wX7 G (a0 0) a1 f1 A1))) rfl rfl rfl rfl rfl hl.1 (Nat.le_of_ble_eq_true rfl) dX9_isBeaten_42 (fun H locs hPD hS => ?_)
    refine lv_iload_n hx hb dX9_isBeaten_45 rfl (lv_at hl 3 rfl) ?_
    refine lv_isub hx hb dX9_isBeaten_46 ?_
    refine lv_istore (lv' := [(6, .int ((f7_byteAt f1 A1 (2 * l5)) - l3)), (0, .ref h0), (1, .int p1), (2, .int p2), (3, .int l3), (4, .int l4), (5, .int l5)]) hx hb dX9_isBeaten_47 hl (by decide) rfl (fun ls hl => ?_)
    refine lv_aload_n hx hb dX9_isBeaten_49 rfl (lv_at hl 1 rfl) ?_
    refine va_get (D := G.1) (ci := 9) (v := .ref (a0 0)) (C := RX9) (T := TX9) (N := 15) hx hb hts inlX9 hown hK hPD.1 0 rfl rfl 0 (by decide) (hts _ gw_366) (fun _ h9 => h9) rfl dX9_isBeaten_50 ?_
    refine lv_iconst (v := 2) hx hb dX9_isBeaten_53 (by decide) ?_
    refine lv_iload hx hb dX9_isBeaten_54 (lv_at hl 6 rfl) ?_
    refine lv_imul hx hb dX9_isBeaten_56 ?_
    refine lv_iconst (v := 1) hx hb dX9_isBeaten_57 (by decide) ?_
    refine lv_iadd hx hb dX9_isBeaten_58 ?_
    refine kVI (As := [.int ((2 * l5) + 1)]) (rest := []) C0 (kt_X7_byteAt l G (a0 0) a1 f1 A1 ((2 * l5) + 1)) gi_V_X9_224_X7_byteAt (n := 1) rfl (by decide +kernel) rfl ⟨rfl, rfl, Nat.le_of_ble_eq_true rfl, Nat.le_of_ble_eq_true rfl⟩ hPD hS 2 7 rfl rfl rfl [2, 3] [0, 1] [0, 1, 2, 3] (wN := (wX9 G h0 a0 wk f0 A0 ++ (wX7 G (a0 0) a1 f1 A1))) rfl rfl rfl rfl rfl hl.1 (Nat.le_of_ble_eq_true rfl) dX9_isBeaten_59 (fun H locs hPD hS => ?_)
    refine lv_iload hx hb dX9_isBeaten_62 (lv_at hl 5 rfl) ?_
    refine lv_isub hx hb dX9_isBeaten_64 ?_
    refine lv_istore (lv' := [(7, .int ((f7_byteAt f1 A1 ((2 * l5) + 1)) - l4)), (6, .int ((f7_byteAt f1 A1 (2 * l5)) - l3)), (0, .ref h0), (1, .int p1), (2, .int p2), (3, .int l3), (4, .int l4), (5, .int l5)]) hx hb dX9_isBeaten_65 hl (by decide) rfl (fun ls hl => ?_)
    refine lv_iload hx hb dX9_isBeaten_67 (lv_at hl 1 rfl) ?_
    refine lv_if_lt (tgt := 87) hx hb dX9_isBeaten_69 (by decide) (fun cc1 => ?_) (fun cc1 => ?_)
    · have h := (if_pos cc1).symm.trans h
      refine lv_iinc (v := l5 + 1) (lv' := [(5, .int (l5 + 1)), (7, .int ((f7_byteAt f1 A1 ((2 * l5) + 1)) - l4)), (6, .int ((f7_byteAt f1 A1 (2 * l5)) - l3)), (0, .ref h0), (1, .int p1), (2, .int p2), (3, .int l3), (4, .int l4)]) hx hb dX9_isBeaten_87 hl (k := 7) rfl rfl (by decide) rfl (fun ls hl => ?_)
      refine lv_goto (tgt := 28) hx hb dX9_isBeaten_90 (by decide) ?_
      exact hk28 l3 l4 (l5 + 1) h _ _ _ hPD hS (lv_sub hl [3, 4, 5, 6, 7, 0] rfl)
    · have h := (if_neg cc1).symm.trans h
      refine lv_iload hx hb dX9_isBeaten_72 (lv_at hl 0 rfl) ?_
      refine lv_if_lt (tgt := 87) hx hb dX9_isBeaten_74 (by decide) (fun cc1 => ?_) (fun cc1 => ?_)
      · have h := (if_pos cc1).symm.trans h
        refine lv_iinc (v := l5 + 1) (lv' := [(5, .int (l5 + 1)), (7, .int ((f7_byteAt f1 A1 ((2 * l5) + 1)) - l4)), (6, .int ((f7_byteAt f1 A1 (2 * l5)) - l3)), (0, .ref h0), (1, .int p1), (2, .int p2), (3, .int l3), (4, .int l4)]) hx hb dX9_isBeaten_87 hl (k := 7) rfl rfl (by decide) rfl (fun ls hl => ?_)
        refine lv_goto (tgt := 28) hx hb dX9_isBeaten_90 (by decide) ?_
        exact hk28 l3 l4 (l5 + 1) h _ _ _ hPD hS (lv_sub hl [3, 4, 5, 6, 7, 0] rfl)
      · have h := (if_neg cc1).symm.trans h
        refine lv_iload hx hb dX9_isBeaten_77 (lv_at hl 1 rfl) ?_
        refine lv_iload hx hb dX9_isBeaten_79 (lv_at hl 0 rfl) ?_
        refine lv_iadd hx hb dX9_isBeaten_81 ?_
        refine lv_if_le (tgt := 87) hx hb dX9_isBeaten_82 (by decide) (fun cc1 => ?_) (fun cc1 => ?_)
        · have h := (if_pos cc1).symm.trans h
          refine lv_iinc (v := l5 + 1) (lv' := [(5, .int (l5 + 1)), (7, .int ((f7_byteAt f1 A1 ((2 * l5) + 1)) - l4)), (6, .int ((f7_byteAt f1 A1 (2 * l5)) - l3)), (0, .ref h0), (1, .int p1), (2, .int p2), (3, .int l3), (4, .int l4)]) hx hb dX9_isBeaten_87 hl (k := 7) rfl rfl (by decide) rfl (fun ls hl => ?_)
          refine lv_goto (tgt := 28) hx hb dX9_isBeaten_90 (by decide) ?_
          exact hk28 l3 l4 (l5 + 1) h _ _ _ hPD hS (lv_sub hl [3, 4, 5, 6, 7, 0] rfl)
        · have h := (if_neg cc1).symm.trans h
          refine lv_iconst (v := 1) hx hb dX9_isBeaten_85 (by decide) ?_
          obtain rfl := Option.some.inj h
          exact eZ C0 hPD.1 hPD.2 hS rfl rfl dX9_isBeaten_86
set_option maxRecDepth 100000 in
set_option maxHeartbeats 4000000 in
theorem ww_f9_isBeaten_l28  (C0 : Cx cX9_isBeaten 8 (some .boolean) RX9 p s m args meth c G DA) {h0 : Nat} {a0 : Nat → Nat} {wk : Option Nat} {a1 : Nat → Nat} {f0 : Nat → Int32} {A0 : Nat → Nat → Int32} {f1 : Nat → Int32} {A1 : Nat → Nat → Int32} {p1 : Int32} {p2 : Int32}   {res : Int32}  : ∀ (n : Nat) (l3 : Int32) (l4 : Int32) (l5 : Int32), f9_isBeaten_l28 f0 A0 f1 A1 p1 p2  n l3 l4 l5 = some res → ∀ (H : Heap) (locs : List Loc) (ls : Array Slot), WD G DA (wX9 G h0 a0 wk f0 A0 ++ (wX7 G (a0 0) a1 f1 A1)) H → va_S DA s.heap H locs → lv_has ls 8 [(0, .ref h0), (1, .int p1), (2, .int p2), (3, .int l3), (4, .int l4), (5, .int l5)] → W p l e rmX9_isBeaten s m args below meth c H locs 0 0 (MQ below (QI G DA res (wX9 G h0 a0 wk f0 A0 ++ (wX7 G (a0 0) a1 f1 A1))) args s 0 0 DA) (F0 m 28 ls []) := by
  intro n
  induction n with
  | zero => intro l3 l4 l5 h; cases h
  | succ n ih => intro l3 l4 l5 h; exact ww_f9_isBeaten_b28 C0  ih l3 l4 l5 h
set_option maxRecDepth 100000 in
set_option maxHeartbeats 4000000 in
theorem kt_X9_isBeaten (l : Launch) (G : Gp) (h0 : Nat) (a0 : Nat → Nat) (wk : Option Nat) (a1 : Nat → Nat) (f0 : Nat → Int32) (A0 : Nat → Nat → Int32) (f1 : Nat → Int32) (A1 : Nat → Nat → Int32) (p1 : Int32) (p2 : Int32) : ∀ {r : Int32}, f9_isBeaten f0 A0 f1 A1 p1 p2 = some r → CtrI l yX9_isBeaten cX9_isBeaten 8 (some .boolean) rmX9_isBeaten G [.ref h0, .int p1, .int p2] (wX9 G h0 a0 wk f0 A0 ++ (wX7 G (a0 0) a1 f1 A1)) r (wX9 G h0 a0 wk f0 A0 ++ (wX7 G (a0 0) a1 f1 A1)) := by
  intro res h
  refine ctrI_of (cc := cX9_isBeaten) (maxL := 8) (ret := (some .boolean)) (by decide +kernel) rfl (Nat.le_of_ble_eq_true rfl) (fun p e s m below meth c DA C0 hP hD ls hl => ?_)
  have hPD : WD G DA (wX9 G h0 a0 wk f0 A0 ++ (wX7 G (a0 0) a1 f1 A1)) s.heap := ⟨hP, hD⟩
  have hS : va_S DA s.heap s.heap [] := va_S.rf
  have hl : lv_has ls 8 [(0, .ref h0), (1, .int p1), (2, .int p2)] := hl
  obtain ⟨hx, hb, hml, hown, hts⟩ := C0.1
  have hK := C0.2.2.2.1
  unfold f9_isBeaten at h
  refine lv_aload_n hx hb dX9_isBeaten_0 rfl (lv_at hl 0 rfl) ?_
  refine va_get (D := G.1) (ci := 9) (v := .ref (a0 0)) (C := RX9) (T := TX9) (N := 15) hx hb hts inlX9 hown hK hPD.1 0 rfl rfl 0 (by decide) (hts _ gw_366) (fun _ h9 => h9) rfl dX9_isBeaten_1 ?_
  refine lv_iconst (v := 2) hx hb dX9_isBeaten_4 (by decide) ?_
  refine lv_iload_n hx hb dX9_isBeaten_5 rfl (lv_at hl 1 rfl) ?_
  refine lv_imul hx hb dX9_isBeaten_6 ?_
  refine kVI (As := [.int (2 * p1)]) (rest := []) C0 (kt_X7_byteAt l G (a0 0) a1 f1 A1 (2 * p1)) gi_V_X9_224_X7_byteAt (n := 1) rfl (by decide +kernel) rfl ⟨rfl, rfl, Nat.le_of_ble_eq_true rfl, Nat.le_of_ble_eq_true rfl⟩ hPD hS 2 7 rfl rfl rfl [2, 3] [0, 1] [0, 1, 2, 3] (wN := (wX9 G h0 a0 wk f0 A0 ++ (wX7 G (a0 0) a1 f1 A1))) rfl rfl rfl rfl rfl hl.1 (Nat.le_of_ble_eq_true rfl) dX9_isBeaten_7 (fun H locs hPD hS => ?_)
  refine lv_istore_n (lv' := [(3, .int (f7_byteAt f1 A1 (2 * p1))), (0, .ref h0), (1, .int p1), (2, .int p2)]) hx hb dX9_isBeaten_10 rfl hl (by decide) rfl (fun ls hl => ?_)
  refine lv_aload_n hx hb dX9_isBeaten_11 rfl (lv_at hl 1 rfl) ?_
  refine va_get (D := G.1) (ci := 9) (v := .ref (a0 0)) (C := RX9) (T := TX9) (N := 15) hx hb hts inlX9 hown hK hPD.1 0 rfl rfl 0 (by decide) (hts _ gw_366) (fun _ h9 => h9) rfl dX9_isBeaten_12 ?_
  refine lv_iconst (v := 2) hx hb dX9_isBeaten_15 (by decide) ?_
  refine lv_iload_n hx hb dX9_isBeaten_16 rfl (lv_at hl 2 rfl) ?_
  refine lv_imul hx hb dX9_isBeaten_17 ?_
  refine lv_iconst (v := 1) hx hb dX9_isBeaten_18 (by decide) ?_
  refine lv_iadd hx hb dX9_isBeaten_19 ?_
  refine kVI (As := [.int ((2 * p1) + 1)]) (rest := []) C0 (kt_X7_byteAt l G (a0 0) a1 f1 A1 ((2 * p1) + 1)) gi_V_X9_224_X7_byteAt (n := 1) rfl (by decide +kernel) rfl ⟨rfl, rfl, Nat.le_of_ble_eq_true rfl, Nat.le_of_ble_eq_true rfl⟩ hPD hS 2 7 rfl rfl rfl [2, 3] [0, 1] [0, 1, 2, 3] (wN := (wX9 G h0 a0 wk f0 A0 ++ (wX7 G (a0 0) a1 f1 A1))) rfl rfl rfl rfl rfl hl.1 (Nat.le_of_ble_eq_true rfl) dX9_isBeaten_20 (fun H locs hPD hS => ?_)
  refine lv_istore (lv' := [(4, .int (f7_byteAt f1 A1 ((2 * p1) + 1))), (3, .int (f7_byteAt f1 A1 (2 * p1))), (0, .ref h0), (1, .int p1), (2, .int p2)]) hx hb dX9_isBeaten_23 hl (by decide) rfl (fun ls hl => ?_)
  refine lv_iconst (v := 0) hx hb dX9_isBeaten_25 (by decide) ?_
  refine lv_istore (lv' := [(5, .int 0), (4, .int (f7_byteAt f1 A1 ((2 * p1) + 1))), (3, .int (f7_byteAt f1 A1 (2 * p1))), (0, .ref h0), (1, .int p1), (2, .int p2)]) hx hb dX9_isBeaten_26 hl (by decide) rfl (fun ls hl => ?_)
  exact ww_f9_isBeaten_l28 C0 NF (f7_byteAt f1 A1 (2 * p1)) (f7_byteAt f1 A1 ((2 * p1) + 1)) 0 h _ _ _ hPD hS (lv_sub hl [3, 4, 5, 2, 1, 0] rfl)
abbrev rmX9_likely : Room := { frames := 3, cells := 0, slots := 0, locals := 69 }
set_option maxRecDepth 100000 in
set_option maxHeartbeats 4000000 in
theorem ww_f9_likely_b103  (C0 : Cx cX9_likely 8 (some .int) RX9 p s m args meth c G DA) {h0 : Nat} {a0 : Nat → Nat} {wk : Option Nat} {a1 : Nat → Nat} {f0 : Nat → Int32} {A0 : Nat → Nat → Int32} {A1 : Nat → Nat → Int32} {p1 : Int32} {p2 : Int32}  {k55 : (Nat → Int32) → Int32 → Int32 → Int32 → Int32 → Option (Int32 × (Nat → Int32))} {res : Int32 × (Nat → Int32)} (hk55 : ∀ (f1 : Nat → Int32) (l3 : Int32) (l4 : Int32) (l5 : Int32) (l6 : Int32), k55 f1 l3 l4 l5 l6 = some res → ∀ (H : Heap) (locs : List Loc) (ls : Array Slot), WD G DA (wX9 G h0 a0 wk f0 A0 ++ (wX7 G (a0 0) a1 f1 A1)) H → va_S DA s.heap H locs → lv_has ls 8 [(0, .ref h0), (1, .int p1), (2, .int p2), (3, .int l3), (4, .int l4), (5, .int l5), (6, .int l6)] → W p l e rmX9_likely s m args below meth c H locs 0 0 (MQ below (QI G DA res.1 (wX9 G h0 a0 wk f0 A0 ++ (wX7 G (a0 0) a1 res.2 A1))) args s 0 0 DA) (F0 m 55 ls [])) : ∀ (f1 : Nat → Int32) (l3 : Int32) (l4 : Int32) (l5 : Int32) (l6 : Int32), f9_likely_b103 f0 A0 A1 p1 p2 k55 f1 l3 l4 l5 l6 = some res → ∀ (H : Heap) (locs : List Loc) (ls : Array Slot), WD G DA (wX9 G h0 a0 wk f0 A0 ++ (wX7 G (a0 0) a1 f1 A1)) H → va_S DA s.heap H locs → lv_has ls 8 [(0, .ref h0), (1, .int p1), (2, .int p2), (3, .int l3), (4, .int l4), (5, .int l5), (6, .int l6)] → W p l e rmX9_likely s m args below meth c H locs 0 0 (MQ below (QI G DA res.1 (wX9 G h0 a0 wk f0 A0 ++ (wX7 G (a0 0) a1 res.2 A1))) args s 0 0 DA) (F0 m 103 ls []) := by
  obtain ⟨hx, hb, hml, hown, hts⟩ := C0.1
  have hK := C0.2.2.2.1
  intro f1 l3 l4 l5 l6 h _ _ _ hPD hS hl
  unfold f9_likely_b103 at h
  refine lv_aload_n hx hb dX9_likely_103 rfl (lv_at hl 0 rfl) ?_
  refine lv_iload hx hb dX9_likely_104 (lv_at hl 6 rfl) ?_
  refine lv_iload_n hx hb dX9_likely_106 rfl (lv_at hl 1 rfl) ?_
  obtain ⟨q_2, hq_2, h⟩ := ob2 h
  refine kVI (As := [.int l6, .int p1]) (rest := []) C0 (kt_X9_isBeaten l G h0 a0 wk a1 f0 A0 f1 A1 l6 p1 hq_2) gi_V_X9_297_X9_isBeaten (n := 2) rfl (by decide +kernel) rfl ⟨rfl, rfl, Nat.le_of_ble_eq_true rfl, Nat.le_of_ble_eq_true rfl⟩ hPD hS 0 9 rfl rfl rfl [0, 1, 2, 3] [] [0, 1, 2, 3] (wN := (wX9 G h0 a0 wk f0 A0 ++ (wX7 G (a0 0) a1 f1 A1))) rfl rfl rfl rfl rfl hl.1 (Nat.le_of_ble_eq_true rfl) dX9_likely_107 (fun H locs hPD hS => ?_)
  refine lv_if_ne (tgt := 120) hx hb dX9_likely_110 (by decide) (fun cc1 => ?_) (fun cc1 => ?_)
  · have h := (if_neg cc1).symm.trans h
    refine lv_iinc (v := l6 + 1) (lv' := [(6, .int (l6 + 1)), (0, .ref h0), (1, .int p1), (2, .int p2), (3, .int l3), (4, .int l4), (5, .int l5)]) hx hb dX9_likely_120 hl (k := 6) rfl rfl (by decide) rfl (fun ls hl => ?_)
    refine lv_goto (tgt := 55) hx hb dX9_likely_123 (by decide) ?_
    exact hk55 f1 l3 l4 l5 (l6 + 1) h _ _ _ hPD hS (lv_sub hl [1, 2, 3, 4, 5, 6, 0] rfl)
  · have h := (if_pos cc1).symm.trans h
    refine lv_iload_n hx hb dX9_likely_113 rfl (lv_at hl 3 rfl) ?_
    refine lv_iconst (v := 1) hx hb dX9_likely_114 (by decide) ?_
    refine lv_iload hx hb dX9_likely_115 (lv_at hl 6 rfl) ?_
    refine lv_ishl hx hb dX9_likely_117 ?_
    refine lv_ior hx hb dX9_likely_118 ?_
    refine lv_istore_n (lv' := [(3, .int (l3 ||| (shl 1 l6))), (0, .ref h0), (1, .int p1), (2, .int p2), (4, .int l4), (5, .int l5), (6, .int l6)]) hx hb dX9_likely_119 rfl hl (by decide) rfl (fun ls hl => ?_)
    refine lv_iinc (v := l6 + 1) (lv' := [(6, .int (l6 + 1)), (3, .int (l3 ||| (shl 1 l6))), (0, .ref h0), (1, .int p1), (2, .int p2), (4, .int l4), (5, .int l5)]) hx hb dX9_likely_120 hl (k := 6) rfl rfl (by decide) rfl (fun ls hl => ?_)
    refine lv_goto (tgt := 55) hx hb dX9_likely_123 (by decide) ?_
    exact hk55 f1 (l3 ||| (shl 1 l6)) l4 l5 (l6 + 1) h _ _ _ hPD hS (lv_sub hl [2, 3, 4, 1, 5, 6, 0] rfl)
set_option maxRecDepth 100000 in
set_option maxHeartbeats 4000000 in
theorem ww_f9_likely_b55  (C0 : Cx cX9_likely 8 (some .int) RX9 p s m args meth c G DA) {h0 : Nat} {a0 : Nat → Nat} {wk : Option Nat} {a1 : Nat → Nat} {f0 : Nat → Int32} {A0 : Nat → Nat → Int32} {A1 : Nat → Nat → Int32} {p1 : Int32} {p2 : Int32}  {k55 : (Nat → Int32) → Int32 → Int32 → Int32 → Int32 → Option (Int32 × (Nat → Int32))} {res : Int32 × (Nat → Int32)}  (hk55 : ∀ (f1 : Nat → Int32) (l3 : Int32) (l4 : Int32) (l5 : Int32) (l6 : Int32), k55 f1 l3 l4 l5 l6 = some res → ∀ (H : Heap) (locs : List Loc) (ls : Array Slot), WD G DA (wX9 G h0 a0 wk f0 A0 ++ (wX7 G (a0 0) a1 f1 A1)) H → va_S DA s.heap H locs → lv_has ls 8 [(0, .ref h0), (1, .int p1), (2, .int p2), (3, .int l3), (4, .int l4), (5, .int l5), (6, .int l6)] → W p l e rmX9_likely s m args below meth c H locs 0 0 (MQ below (QI G DA res.1 (wX9 G h0 a0 wk f0 A0 ++ (wX7 G (a0 0) a1 res.2 A1))) args s 0 0 DA) (F0 m 55 ls [])) : ∀ (f1 : Nat → Int32) (l3 : Int32) (l4 : Int32) (l5 : Int32) (l6 : Int32), f9_likely_b55 f0 A0 A1 p1 p2  k55 f1 l3 l4 l5 l6 = some res → ∀ (H : Heap) (locs : List Loc) (ls : Array Slot), WD G DA (wX9 G h0 a0 wk f0 A0 ++ (wX7 G (a0 0) a1 f1 A1)) H → va_S DA s.heap H locs → lv_has ls 8 [(0, .ref h0), (1, .int p1), (2, .int p2), (3, .int l3), (4, .int l4), (5, .int l5), (6, .int l6)] → W p l e rmX9_likely s m args below meth c H locs 0 0 (MQ below (QI G DA res.1 (wX9 G h0 a0 wk f0 A0 ++ (wX7 G (a0 0) a1 res.2 A1))) args s 0 0 DA) (F0 m 55 ls []) := by
  obtain ⟨hx, hb, hml, hown, hts⟩ := C0.1
  have hK := C0.2.2.2.1
  intro f1 l3 l4 l5 l6 h _ _ _ hPD hS hl
  unfold f9_likely_b55 at h
  refine lv_iload hx hb dX9_likely_55 (lv_at hl 6 rfl) ?_
  refine lv_iload_n hx hb dX9_likely_57 rfl (lv_at hl 1 rfl) ?_
  refine lv_icmp_ge (tgt := 126) hx hb dX9_likely_58 (by decide) (fun cc1 => ?_) (fun cc1 => ?_)
  · have h := (if_pos cc1).symm.trans h
    refine lv_iload_n hx hb dX9_likely_126 rfl (lv_at hl 2 rfl) ?_
    refine lv_if_ne (tgt := 132) hx hb dX9_likely_127 (by decide) (fun cc1 => ?_) (fun cc1 => ?_)
    · have h := (if_neg cc1).symm.trans h
      refine lv_iload_n hx hb dX9_likely_132 rfl (lv_at hl 2 rfl) ?_
      refine lv_iconst (v := 1) hx hb dX9_likely_133 (by decide) ?_
      refine lv_icmp_ne (tgt := 142) hx hb dX9_likely_134 (by decide) (fun cc1 => ?_) (fun cc1 => ?_)
      · have h := (if_neg cc1).symm.trans h
        refine lv_iload hx hb dX9_likely_142 (lv_at hl 5 rfl) ?_
        obtain rfl := Option.some.inj h
        exact eI C0 hPD.1 hPD.2 hS rfl dX9_likely_144
      · have h := (if_pos cc1).symm.trans h
        refine lv_iload hx hb dX9_likely_137 (lv_at hl 4 rfl) ?_
        refine lv_goto (tgt := 144) hx hb dX9_likely_139 (by decide) ?_
        obtain rfl := Option.some.inj h
        exact eI C0 hPD.1 hPD.2 hS rfl dX9_likely_144
    · have h := (if_pos cc1).symm.trans h
      refine lv_iload_n hx hb dX9_likely_130 rfl (lv_at hl 3 rfl) ?_
      obtain rfl := Option.some.inj h
      exact eI C0 hPD.1 hPD.2 hS rfl dX9_likely_131
  · have h := (if_neg cc1).symm.trans h
    refine lv_aload_n hx hb dX9_likely_61 rfl (lv_at hl 0 rfl) ?_
    refine va_get (D := G.1) (ci := 9) (v := .ref (a0 0)) (C := RX9) (T := TX9) (N := 15) hx hb hts inlX9 hown hK hPD.1 0 rfl rfl 0 (by decide) (hts _ gw_366) (fun _ h9 => h9) rfl dX9_likely_62 ?_
    refine lv_iconst (v := 2) hx hb dX9_likely_65 (by decide) ?_
    refine lv_iload hx hb dX9_likely_66 (lv_at hl 6 rfl) ?_
    refine lv_imul hx hb dX9_likely_68 ?_
    refine kVI (As := [.int (2 * l6)]) (rest := []) C0 (kt_X7_byteAt l G (a0 0) a1 f1 A1 (2 * l6)) gi_V_X9_224_X7_byteAt (n := 1) rfl (by decide +kernel) rfl ⟨rfl, rfl, Nat.le_of_ble_eq_true rfl, Nat.le_of_ble_eq_true rfl⟩ hPD hS 2 7 rfl rfl rfl [2, 3] [0, 1] [0, 1, 2, 3] (wN := (wX9 G h0 a0 wk f0 A0 ++ (wX7 G (a0 0) a1 f1 A1))) rfl rfl rfl rfl rfl hl.1 (Nat.le_of_ble_eq_true rfl) dX9_likely_69 (fun H locs hPD hS => ?_)
    refine lv_aload_n hx hb dX9_likely_72 rfl (lv_at hl 0 rfl) ?_
    refine va_get (D := G.1) (ci := 9) (v := .ref (a0 0)) (C := RX9) (T := TX9) (N := 15) hx hb hts inlX9 hown hK hPD.1 0 rfl rfl 0 (by decide) (hts _ gw_366) (fun _ h9 => h9) rfl dX9_likely_73 ?_
    refine lv_iconst (v := 2) hx hb dX9_likely_76 (by decide) ?_
    refine lv_iload hx hb dX9_likely_77 (lv_at hl 6 rfl) ?_
    refine lv_imul hx hb dX9_likely_79 ?_
    refine lv_iconst (v := 1) hx hb dX9_likely_80 (by decide) ?_
    refine lv_iadd hx hb dX9_likely_81 ?_
    refine kVI (As := [.int ((2 * l6) + 1)]) (rest := [.int (f7_byteAt f1 A1 (2 * l6))]) C0 (kt_X7_byteAt l G (a0 0) a1 f1 A1 ((2 * l6) + 1)) gi_V_X9_224_X7_byteAt (n := 1) rfl (by decide +kernel) rfl ⟨rfl, rfl, Nat.le_of_ble_eq_true rfl, Nat.le_of_ble_eq_true rfl⟩ hPD hS 2 7 rfl rfl rfl [2, 3] [0, 1] [0, 1, 2, 3] (wN := (wX9 G h0 a0 wk f0 A0 ++ (wX7 G (a0 0) a1 f1 A1))) rfl rfl rfl rfl rfl hl.1 (Nat.le_of_ble_eq_true rfl) dX9_likely_82 (fun H locs hPD hS => ?_)
    refine lv_imul hx hb dX9_likely_85 ?_
    obtain ⟨x_1, ex_1, h⟩ := lvl h
    refine lv_nm ex_1 ?_
    refine lv_istore (lv' := [(7, .int x_1), (0, .ref h0), (1, .int p1), (2, .int p2), (3, .int l3), (4, .int l4), (5, .int l5), (6, .int l6)]) hx hb dX9_likely_86 hl (by decide) rfl (fun ls hl => ?_)
    refine lv_iload hx hb dX9_likely_88 (lv_at hl 0 rfl) ?_
    refine lv_iload hx hb dX9_likely_90 (lv_at hl 5 rfl) ?_
    refine lv_icmp_le (tgt := 103) hx hb dX9_likely_92 (by decide) (fun cc1 => ?_) (fun cc1 => ?_)
    · have h := (if_pos cc1).symm.trans h
      exact ww_f9_likely_b103 C0 hk55 f1 l3 l4 l5 l6 h _ _ _ hPD hS (lv_sub hl [1, 2, 3, 4, 5, 6, 7] rfl)
    · have h := (if_neg cc1).symm.trans h
      refine lv_iload hx hb dX9_likely_95 (lv_at hl 0 rfl) ?_
      refine lv_istore (lv' := [(4, .int x_1), (7, .int x_1), (0, .ref h0), (1, .int p1), (2, .int p2), (3, .int l3), (5, .int l5), (6, .int l6)]) hx hb dX9_likely_97 hl (by decide) rfl (fun ls hl => ?_)
      refine lv_iload hx hb dX9_likely_99 (lv_at hl 7 rfl) ?_
      refine lv_istore (lv' := [(5, .int l6), (4, .int x_1), (7, .int x_1), (0, .ref h0), (1, .int p1), (2, .int p2), (3, .int l3), (6, .int l6)]) hx hb dX9_likely_101 hl (by decide) rfl (fun ls hl => ?_)
      exact ww_f9_likely_b103 C0 hk55 f1 l3 x_1 l6 l6 h _ _ _ hPD hS (lv_sub hl [3, 4, 5, 6, 1, 0, 7] rfl)
set_option maxRecDepth 100000 in
set_option maxHeartbeats 4000000 in
theorem ww_f9_likely_l55  (C0 : Cx cX9_likely 8 (some .int) RX9 p s m args meth c G DA) {h0 : Nat} {a0 : Nat → Nat} {wk : Option Nat} {a1 : Nat → Nat} {f0 : Nat → Int32} {A0 : Nat → Nat → Int32} {A1 : Nat → Nat → Int32} {p1 : Int32} {p2 : Int32}   {res : Int32 × (Nat → Int32)}  : ∀ (n : Nat) (f1 : Nat → Int32) (l3 : Int32) (l4 : Int32) (l5 : Int32) (l6 : Int32), f9_likely_l55 f0 A0 A1 p1 p2  n f1 l3 l4 l5 l6 = some res → ∀ (H : Heap) (locs : List Loc) (ls : Array Slot), WD G DA (wX9 G h0 a0 wk f0 A0 ++ (wX7 G (a0 0) a1 f1 A1)) H → va_S DA s.heap H locs → lv_has ls 8 [(0, .ref h0), (1, .int p1), (2, .int p2), (3, .int l3), (4, .int l4), (5, .int l5), (6, .int l6)] → W p l e rmX9_likely s m args below meth c H locs 0 0 (MQ below (QI G DA res.1 (wX9 G h0 a0 wk f0 A0 ++ (wX7 G (a0 0) a1 res.2 A1))) args s 0 0 DA) (F0 m 55 ls []) := by
  intro n
  induction n with
  | zero => intro f1 l3 l4 l5 l6 h; cases h
  | succ n ih => intro f1 l3 l4 l5 l6 h; exact ww_f9_likely_b55 C0  ih f1 l3 l4 l5 l6 h
set_option maxRecDepth 100000 in
set_option maxHeartbeats 4000000 in
theorem kt_X9_likely (l : Launch) (G : Gp) (h0 : Nat) (a0 : Nat → Nat) (wk : Option Nat) (a1 : Nat → Nat) (f0 : Nat → Int32) (A0 : Nat → Nat → Int32) (f1 : Nat → Int32) (A1 : Nat → Nat → Int32) (p1 : Int32) (p2 : Int32) : ∀ {r : Int32 × (Nat → Int32)}, f9_likely f0 A0 f1 A1 p1 p2 = some r → CtrI l yX9_likely cX9_likely 8 (some .int) rmX9_likely G [.ref h0, .int p1, .int p2] (wX9 G h0 a0 wk f0 A0 ++ (wX7 G (a0 0) a1 f1 A1)) r.1 (wX9 G h0 a0 wk f0 A0 ++ (wX7 G (a0 0) a1 r.2 A1)) := by
  intro res h
  refine ctrI_of (cc := cX9_likely) (maxL := 8) (ret := (some .int)) (by decide +kernel) rfl (Nat.le_of_ble_eq_true rfl) (fun p e s m below meth c DA C0 hP hD ls hl => ?_)
  have hPD : WD G DA (wX9 G h0 a0 wk f0 A0 ++ (wX7 G (a0 0) a1 f1 A1)) s.heap := ⟨hP, hD⟩
  have hS : va_S DA s.heap s.heap [] := va_S.rf
  have hl : lv_has ls 8 [(0, .ref h0), (1, .int p1), (2, .int p2)] := hl
  obtain ⟨hx, hb, hml, hown, hts⟩ := C0.1
  have hK := C0.2.2.2.1
  unfold f9_likely at h
  refine lv_iload_n hx hb dX9_likely_0 rfl (lv_at hl 1 rfl) ?_
  refine lv_iconst (v := 1) hx hb dX9_likely_1 (by decide) ?_
  refine lv_bipush (v := 16) hx hb dX9_likely_2 (by decide) ?_
  refine kSI (As := [.int p1, .int 1, .int 16]) (rest := []) C0 (kt_X9_within l G  p1 1 16) gi_S_X9_90_X9_within (n := 3) rfl (by decide +kernel) ⟨rfl, rfl, Nat.le_of_ble_eq_true rfl, Nat.le_of_ble_eq_true rfl⟩ hPD hS [] [0, 1, 2, 3] [0, 1, 2, 3] (wN := (wX9 G h0 a0 wk f0 A0 ++ (wX7 G (a0 0) a1 f1 A1))) rfl rfl rfl rfl rfl hl.1 (Nat.le_of_ble_eq_true rfl) dX9_likely_4 (fun H locs hPD hS => ?_)
  refine lv_if_eq (tgt := 32) hx hb dX9_likely_7 (by decide) (fun cc1 => ?_) (fun cc1 => ?_)
  · have h := (if_pos cc1).symm.trans h
    refine lv_iconst (v := (-1)) hx hb dX9_likely_32 (by decide) ?_
    obtain rfl := Option.some.inj h
    exact eI C0 hPD.1 hPD.2 hS rfl dX9_likely_33
  · have h := (if_neg cc1).symm.trans h
    refine lv_iload_n hx hb dX9_likely_10 rfl (lv_at hl 2 rfl) ?_
    refine lv_iconst (v := 0) hx hb dX9_likely_11 (by decide) ?_
    refine lv_iconst (v := 2) hx hb dX9_likely_12 (by decide) ?_
    refine kSI (As := [.int p2, .int 0, .int 2]) (rest := []) C0 (kt_X9_within l G  p2 0 2) gi_S_X9_90_X9_within (n := 3) rfl (by decide +kernel) ⟨rfl, rfl, Nat.le_of_ble_eq_true rfl, Nat.le_of_ble_eq_true rfl⟩ hPD hS [] [0, 1, 2, 3] [0, 1, 2, 3] (wN := (wX9 G h0 a0 wk f0 A0 ++ (wX7 G (a0 0) a1 f1 A1))) rfl rfl rfl rfl rfl hl.1 (Nat.le_of_ble_eq_true rfl) dX9_likely_13 (fun H locs hPD hS => ?_)
    refine lv_if_eq (tgt := 32) hx hb dX9_likely_16 (by decide) (fun cc1 => ?_) (fun cc1 => ?_)
    · have h := (if_pos cc1).symm.trans h
      refine lv_iconst (v := (-1)) hx hb dX9_likely_32 (by decide) ?_
      obtain rfl := Option.some.inj h
      exact eI C0 hPD.1 hPD.2 hS rfl dX9_likely_33
    · have h := (if_neg cc1).symm.trans h
      refine lv_aload_n hx hb dX9_likely_19 rfl (lv_at hl 0 rfl) ?_
      refine va_get (D := G.1) (ci := 9) (v := .ref (a0 0)) (C := RX9) (T := TX9) (N := 15) hx hb hts inlX9 hown hK hPD.1 0 rfl rfl 0 (by decide) (hts _ gw_366) (fun _ h9 => h9) rfl dX9_likely_20 ?_
      refine lv_iconst (v := 2) hx hb dX9_likely_23 (by decide) ?_
      refine lv_iload_n hx hb dX9_likely_24 rfl (lv_at hl 1 rfl) ?_
      refine lv_imul hx hb dX9_likely_25 ?_
      refine kVI (As := [.int (2 * p1)]) (rest := []) C0 (kt_X7_holds l G (a0 0) a1 f1 A1 (2 * p1)) gi_V_X9_132_X7_holds (n := 1) rfl (by decide +kernel) rfl ⟨rfl, rfl, Nat.le_of_ble_eq_true rfl, Nat.le_of_ble_eq_true rfl⟩ hPD hS 2 7 rfl rfl rfl [2, 3] [0, 1] [0, 1, 2, 3] (wN := (wX9 G h0 a0 wk f0 A0 ++ (wX7 G (a0 0) a1 f1 A1))) rfl rfl rfl rfl rfl hl.1 (Nat.le_of_ble_eq_true rfl) dX9_likely_26 (fun H locs hPD hS => ?_)
      refine lv_if_ne (tgt := 34) hx hb dX9_likely_29 (by decide) (fun cc1 => ?_) (fun cc1 => ?_)
      · have h := (if_neg cc1).symm.trans h
        refine lv_aload_n hx hb dX9_likely_34 rfl (lv_at hl 0 rfl) ?_
        refine va_get (D := G.1) (ci := 9) (v := .ref (a0 0)) (C := RX9) (T := TX9) (N := 15) hx hb hts inlX9 hown hK hPD.1 0 rfl rfl 0 (by decide) (hts _ gw_366) (fun _ h9 => h9) rfl dX9_likely_35 ?_
        refine lv_iconst (v := 2) hx hb dX9_likely_38 (by decide) ?_
        refine lv_iload_n hx hb dX9_likely_39 rfl (lv_at hl 1 rfl) ?_
        refine lv_imul hx hb dX9_likely_40 ?_
        refine kVV (As := [.int (2 * p1)]) (rest := []) C0 (kt_X7_open l G (a0 0) a1 f1 A1 (2 * p1)) gi_V_X9_135_X7_open (n := 1) rfl (by decide +kernel) rfl ⟨rfl, rfl, Nat.le_of_ble_eq_true rfl, Nat.le_of_ble_eq_true rfl⟩ hPD hS 2 7 rfl rfl rfl [2, 3] [0, 1] [0, 1, 2, 3] (wN := (wX9 G h0 a0 wk f0 A0 ++ (wX7 G (a0 0) a1 (f7_open f1 A1 (2 * p1)) A1))) rfl rfl rfl rfl rfl hl.1 (Nat.le_of_ble_eq_true rfl) dX9_likely_41 (fun H locs hPD hS => ?_)
        refine lv_iconst (v := 0) hx hb dX9_likely_44 (by decide) ?_
        refine lv_istore_n (lv' := [(3, .int 0), (0, .ref h0), (1, .int p1), (2, .int p2)]) hx hb dX9_likely_45 rfl hl (by decide) rfl (fun ls hl => ?_)
        refine lv_iconst (v := (-1)) hx hb dX9_likely_46 (by decide) ?_
        refine lv_istore (lv' := [(4, .int (-1)), (3, .int 0), (0, .ref h0), (1, .int p1), (2, .int p2)]) hx hb dX9_likely_47 hl (by decide) rfl (fun ls hl => ?_)
        refine lv_iconst (v := 0) hx hb dX9_likely_49 (by decide) ?_
        refine lv_istore (lv' := [(5, .int 0), (4, .int (-1)), (3, .int 0), (0, .ref h0), (1, .int p1), (2, .int p2)]) hx hb dX9_likely_50 hl (by decide) rfl (fun ls hl => ?_)
        refine lv_iconst (v := 0) hx hb dX9_likely_52 (by decide) ?_
        refine lv_istore (lv' := [(6, .int 0), (5, .int 0), (4, .int (-1)), (3, .int 0), (0, .ref h0), (1, .int p1), (2, .int p2)]) hx hb dX9_likely_53 hl (by decide) rfl (fun ls hl => ?_)
        exact ww_f9_likely_l55 C0 NF (f7_open f1 A1 (2 * p1)) 0 (-1) 0 0 h _ _ _ hPD hS (lv_sub hl [4, 5, 6, 3, 2, 1, 0] rfl)
      · have h := (if_pos cc1).symm.trans h
        refine lv_iconst (v := (-1)) hx hb dX9_likely_32 (by decide) ?_
        obtain rfl := Option.some.inj h
        exact eI C0 hPD.1 hPD.2 hS rfl dX9_likely_33
abbrev rmX9_share : Room := { frames := 2, cells := 0, slots := 0, locals := 43 }
set_option maxRecDepth 100000 in
set_option maxHeartbeats 4000000 in
theorem ww_f9_share_b50  (C0 : Cx cX9_share 9 (some .int) RX9 p s m args meth c G DA) {h0 : Nat} {a0 : Nat → Nat} {wk : Option Nat} {a1 : Nat → Nat} {f0 : Nat → Int32} {A0 : Nat → Nat → Int32} {A1 : Nat → Nat → Int32} {p1 : Int32} {p2 : Int32}  {k50 : (Nat → Int32) → Int32 → Int32 → Option (Int32 × (Nat → Int32))} {res : Int32 × (Nat → Int32)}  (hk50 : ∀ (f1 : Nat → Int32) (l3 : Int32) (l4 : Int32), k50 f1 l3 l4 = some res → ∀ (H : Heap) (locs : List Loc) (ls : Array Slot), WD G DA (wX9 G h0 a0 wk f0 A0 ++ (wX7 G (a0 0) a1 f1 A1)) H → va_S DA s.heap H locs → lv_has ls 9 [(0, .ref h0), (1, .int p1), (2, .int p2), (3, .int l3), (4, .int l4)] → W p l e rmX9_share s m args below meth c H locs 0 0 (MQ below (QI G DA res.1 (wX9 G h0 a0 wk f0 A0 ++ (wX7 G (a0 0) a1 res.2 A1))) args s 0 0 DA) (F0 m 50 ls [])) : ∀ (f1 : Nat → Int32) (l3 : Int32) (l4 : Int32), f9_share_b50 f0 A0 A1 p1 p2  k50 f1 l3 l4 = some res → ∀ (H : Heap) (locs : List Loc) (ls : Array Slot), WD G DA (wX9 G h0 a0 wk f0 A0 ++ (wX7 G (a0 0) a1 f1 A1)) H → va_S DA s.heap H locs → lv_has ls 9 [(0, .ref h0), (1, .int p1), (2, .int p2), (3, .int l3), (4, .int l4)] → W p l e rmX9_share s m args below meth c H locs 0 0 (MQ below (QI G DA res.1 (wX9 G h0 a0 wk f0 A0 ++ (wX7 G (a0 0) a1 res.2 A1))) args s 0 0 DA) (F0 m 50 ls []) := by
  obtain ⟨hx, hb, hml, hown, hts⟩ := C0.1
  have hK := C0.2.2.2.1
  intro f1 l3 l4 h _ _ _ hPD hS hl
  unfold f9_share_b50 at h
  refine lv_iload hx hb dX9_share_50 (lv_at hl 4 rfl) ?_
  refine lv_iload_n hx hb dX9_share_52 rfl (lv_at hl 1 rfl) ?_
  refine lv_icmp_ge (tgt := 148) hx hb dX9_share_53 (by decide) (fun cc1 => ?_) (fun cc1 => ?_)
  · have h := (if_pos cc1).symm.trans h
    refine lv_iload_n hx hb dX9_share_148 rfl (lv_at hl 3 rfl) ?_
    obtain rfl := Option.some.inj h
    exact eI C0 hPD.1 hPD.2 hS rfl dX9_share_149
  · have h := (if_neg cc1).symm.trans h
    refine lv_aload_n hx hb dX9_share_56 rfl (lv_at hl 0 rfl) ?_
    refine va_get (D := G.1) (ci := 9) (v := .ref (a0 0)) (C := RX9) (T := TX9) (N := 15) hx hb hts inlX9 hown hK hPD.1 0 rfl rfl 0 (by decide) (hts _ gw_366) (fun _ h9 => h9) rfl dX9_share_57 ?_
    refine lv_iconst (v := 2) hx hb dX9_share_60 (by decide) ?_
    refine lv_iload hx hb dX9_share_61 (lv_at hl 4 rfl) ?_
    refine lv_imul hx hb dX9_share_63 ?_
    refine kVI (As := [.int (2 * l4)]) (rest := []) C0 (kt_X7_byteAt l G (a0 0) a1 f1 A1 (2 * l4)) gi_V_X9_224_X7_byteAt (n := 1) rfl (by decide +kernel) rfl ⟨rfl, rfl, Nat.le_of_ble_eq_true rfl, Nat.le_of_ble_eq_true rfl⟩ hPD hS 2 7 rfl rfl rfl [2, 3] [0, 1] [0, 1, 2, 3] (wN := (wX9 G h0 a0 wk f0 A0 ++ (wX7 G (a0 0) a1 f1 A1))) rfl rfl rfl rfl rfl hl.1 (Nat.le_of_ble_eq_true rfl) dX9_share_64 (fun H locs hPD hS => ?_)
    refine lv_istore (lv' := [(5, .int (f7_byteAt f1 A1 (2 * l4))), (0, .ref h0), (1, .int p1), (2, .int p2), (3, .int l3), (4, .int l4)]) hx hb dX9_share_67 hl (by decide) rfl (fun ls hl => ?_)
    refine lv_aload_n hx hb dX9_share_69 rfl (lv_at hl 1 rfl) ?_
    refine va_get (D := G.1) (ci := 9) (v := .ref (a0 0)) (C := RX9) (T := TX9) (N := 15) hx hb hts inlX9 hown hK hPD.1 0 rfl rfl 0 (by decide) (hts _ gw_366) (fun _ h9 => h9) rfl dX9_share_70 ?_
    refine lv_iconst (v := 2) hx hb dX9_share_73 (by decide) ?_
    refine lv_iload hx hb dX9_share_74 (lv_at hl 5 rfl) ?_
    refine lv_imul hx hb dX9_share_76 ?_
    refine lv_iconst (v := 1) hx hb dX9_share_77 (by decide) ?_
    refine lv_iadd hx hb dX9_share_78 ?_
    refine kVI (As := [.int ((2 * l4) + 1)]) (rest := []) C0 (kt_X7_byteAt l G (a0 0) a1 f1 A1 ((2 * l4) + 1)) gi_V_X9_224_X7_byteAt (n := 1) rfl (by decide +kernel) rfl ⟨rfl, rfl, Nat.le_of_ble_eq_true rfl, Nat.le_of_ble_eq_true rfl⟩ hPD hS 2 7 rfl rfl rfl [2, 3] [0, 1] [0, 1, 2, 3] (wN := (wX9 G h0 a0 wk f0 A0 ++ (wX7 G (a0 0) a1 f1 A1))) rfl rfl rfl rfl rfl hl.1 (Nat.le_of_ble_eq_true rfl) dX9_share_79 (fun H locs hPD hS => ?_)
    refine lv_istore (lv' := [(6, .int (f7_byteAt f1 A1 ((2 * l4) + 1))), (5, .int (f7_byteAt f1 A1 (2 * l4))), (0, .ref h0), (1, .int p1), (2, .int p2), (3, .int l3), (4, .int l4)]) hx hb dX9_share_82 hl (by decide) rfl (fun ls hl => ?_)
    refine lv_iload hx hb dX9_share_84 (lv_at hl 0 rfl) ?_
    refine kSI (As := [.int (f7_byteAt f1 A1 ((2 * l4) + 1))]) (rest := []) C0 (kt_J6_bitCount_0f7a4 l G  (f7_byteAt f1 A1 ((2 * l4) + 1))) gi_S_X9_242_J6_bitCount_0f7a4 (n := 1) rfl (by decide +kernel) ⟨rfl, rfl, Nat.le_of_ble_eq_true rfl, Nat.le_of_ble_eq_true rfl⟩ hPD hS [] [0, 1, 2, 3] [0, 1, 2, 3] (wN := (wX9 G h0 a0 wk f0 A0 ++ (wX7 G (a0 0) a1 f1 A1))) rfl rfl rfl rfl rfl hl.1 (Nat.le_of_ble_eq_true rfl) dX9_share_86 (fun H locs hPD hS => ?_)
    obtain ⟨x_1, ex_1, h⟩ := lvl h
    refine lv_nm ex_1 ?_
    refine lv_istore (lv' := [(7, .int x_1), (6, .int (f7_byteAt f1 A1 ((2 * l4) + 1))), (5, .int (f7_byteAt f1 A1 (2 * l4))), (0, .ref h0), (1, .int p1), (2, .int p2), (3, .int l3), (4, .int l4)]) hx hb dX9_share_89 hl (by decide) rfl (fun ls hl => ?_)
    refine lv_iload hx hb dX9_share_91 (lv_at hl 0 rfl) ?_
    refine lv_if_le (tgt := 142) hx hb dX9_share_93 (by decide) (fun cc1 => ?_) (fun cc1 => ?_)
    · have h := (if_pos cc1).symm.trans h
      refine lv_iinc (v := l4 + 1) (lv' := [(4, .int (l4 + 1)), (7, .int x_1), (6, .int (f7_byteAt f1 A1 ((2 * l4) + 1))), (5, .int (f7_byteAt f1 A1 (2 * l4))), (0, .ref h0), (1, .int p1), (2, .int p2), (3, .int l3)]) hx hb dX9_share_142 hl (k := 7) rfl rfl (by decide) rfl (fun ls hl => ?_)
      refine lv_goto (tgt := 50) hx hb dX9_share_145 (by decide) ?_
      exact hk50 f1 l3 (l4 + 1) h _ _ _ hPD hS (lv_sub hl [4, 5, 6, 7, 0] rfl)
    · have h := (if_neg cc1).symm.trans h
      refine lv_iload hx hb dX9_share_96 (lv_at hl 1 rfl) ?_
      refine lv_iload_n hx hb dX9_share_98 rfl (lv_at hl 5 rfl) ?_
      refine kSI (As := [.int (f7_byteAt f1 A1 ((2 * l4) + 1)), .int p2]) (rest := []) C0 (kt_X9_has l G  (f7_byteAt f1 A1 ((2 * l4) + 1)) p2) gi_S_X9_290_X9_has (n := 2) rfl (by decide +kernel) ⟨rfl, rfl, Nat.le_of_ble_eq_true rfl, Nat.le_of_ble_eq_true rfl⟩ hPD hS [] [0, 1, 2, 3] [0, 1, 2, 3] (wN := (wX9 G h0 a0 wk f0 A0 ++ (wX7 G (a0 0) a1 f1 A1))) rfl rfl rfl rfl rfl hl.1 (Nat.le_of_ble_eq_true rfl) dX9_share_99 (fun H locs hPD hS => ?_)
      refine lv_if_eq (tgt := 142) hx hb dX9_share_102 (by decide) (fun cc1 => ?_) (fun cc1 => ?_)
      · have h := (if_pos cc1).symm.trans h
        refine lv_iinc (v := l4 + 1) (lv' := [(4, .int (l4 + 1)), (7, .int x_1), (6, .int (f7_byteAt f1 A1 ((2 * l4) + 1))), (5, .int (f7_byteAt f1 A1 (2 * l4))), (0, .ref h0), (1, .int p1), (2, .int p2), (3, .int l3)]) hx hb dX9_share_142 hl (k := 7) rfl rfl (by decide) rfl (fun ls hl => ?_)
        refine lv_goto (tgt := 50) hx hb dX9_share_145 (by decide) ?_
        exact hk50 f1 l3 (l4 + 1) h _ _ _ hPD hS (lv_sub hl [4, 5, 6, 7, 0] rfl)
      · have h := (if_neg cc1).symm.trans h
        refine lv_iload hx hb dX9_share_105 (lv_at hl 1 rfl) ?_
        refine lv_iconst (v := 1) hx hb dX9_share_107 (by decide) ?_
        refine lv_iload_n hx hb dX9_share_108 rfl (lv_at hl 5 rfl) ?_
        refine lv_ishl hx hb dX9_share_109 ?_
        refine lv_iconst (v := 1) hx hb dX9_share_110 (by decide) ?_
        refine lv_isub hx hb dX9_share_111 ?_
        refine lv_iand hx hb dX9_share_112 ?_
        refine kSI (As := [.int ((f7_byteAt f1 A1 ((2 * l4) + 1)) &&& ((shl 1 p2) - 1))]) (rest := []) C0 (kt_J6_bitCount_0f7a4 l G  ((f7_byteAt f1 A1 ((2 * l4) + 1)) &&& ((shl 1 p2) - 1))) gi_S_X9_242_J6_bitCount_0f7a4 (n := 1) rfl (by decide +kernel) ⟨rfl, rfl, Nat.le_of_ble_eq_true rfl, Nat.le_of_ble_eq_true rfl⟩ hPD hS [] [0, 1, 2, 3] [0, 1, 2, 3] (wN := (wX9 G h0 a0 wk f0 A0 ++ (wX7 G (a0 0) a1 f1 A1))) rfl rfl rfl rfl rfl hl.1 (Nat.le_of_ble_eq_true rfl) dX9_share_113 (fun H locs hPD hS => ?_)
        obtain ⟨x_2, ex_2, h⟩ := lvl h
        refine lv_nm ex_2 ?_
        refine lv_istore (lv' := [(8, .int x_2), (7, .int x_1), (6, .int (f7_byteAt f1 A1 ((2 * l4) + 1))), (5, .int (f7_byteAt f1 A1 (2 * l4))), (0, .ref h0), (1, .int p1), (2, .int p2), (3, .int l3), (4, .int l4)]) hx hb dX9_share_116 hl (by decide) rfl (fun ls hl => ?_)
        refine lv_iload_n hx hb dX9_share_118 rfl (lv_at hl 7 rfl) ?_
        refine lv_iload hx hb dX9_share_119 (lv_at hl 3 rfl) ?_
        refine lv_iload hx hb dX9_share_121 (lv_at hl 1 rfl) ?_
        obtain ⟨hz, h⟩ := ob h
        refine lv_idiv hx hb dX9_share_123 hz ?_
        refine lv_iload hx hb dX9_share_124 (lv_at hl 0 rfl) ?_
        refine lv_iload hx hb dX9_share_126 (lv_at hl 3 rfl) ?_
        refine lv_iload hx hb dX9_share_128 (lv_at hl 1 rfl) ?_
        obtain ⟨hz, h⟩ := ob h
        refine lv_irem hx hb dX9_share_130 hz ?_
        refine lv_icmp_ge (tgt := 138) hx hb dX9_share_131 (by decide) (fun cc1 => ?_) (fun cc1 => ?_)
        · have h := (if_pos cc1).symm.trans h
          refine lv_iconst (v := 0) hx hb dX9_share_138 (by decide) ?_
          refine lv_iadd hx hb dX9_share_139 ?_
          refine lv_iadd hx hb dX9_share_140 ?_
          refine lv_istore_n (lv' := [(3, .int (l3 + (((f7_byteAt f1 A1 (2 * l4)) / x_1) + 0))), (8, .int x_2), (7, .int x_1), (6, .int (f7_byteAt f1 A1 ((2 * l4) + 1))), (5, .int (f7_byteAt f1 A1 (2 * l4))), (0, .ref h0), (1, .int p1), (2, .int p2), (4, .int l4)]) hx hb dX9_share_141 rfl hl (by decide) rfl (fun ls hl => ?_)
          refine lv_iinc (v := l4 + 1) (lv' := [(4, .int (l4 + 1)), (3, .int (l3 + (((f7_byteAt f1 A1 (2 * l4)) / x_1) + 0))), (8, .int x_2), (7, .int x_1), (6, .int (f7_byteAt f1 A1 ((2 * l4) + 1))), (5, .int (f7_byteAt f1 A1 (2 * l4))), (0, .ref h0), (1, .int p1), (2, .int p2)]) hx hb dX9_share_142 hl (k := 8) rfl rfl (by decide) rfl (fun ls hl => ?_)
          refine lv_goto (tgt := 50) hx hb dX9_share_145 (by decide) ?_
          exact hk50 f1 (l3 + (((f7_byteAt f1 A1 (2 * l4)) / x_1) + 0)) (l4 + 1) h _ _ _ hPD hS (lv_sub hl [6, 7, 8, 1, 0] rfl)
        · have h := (if_neg cc1).symm.trans h
          refine lv_iconst (v := 1) hx hb dX9_share_134 (by decide) ?_
          refine lv_goto (tgt := 139) hx hb dX9_share_135 (by decide) ?_
          refine lv_iadd hx hb dX9_share_139 ?_
          refine lv_iadd hx hb dX9_share_140 ?_
          refine lv_istore_n (lv' := [(3, .int (l3 + (((f7_byteAt f1 A1 (2 * l4)) / x_1) + 1))), (8, .int x_2), (7, .int x_1), (6, .int (f7_byteAt f1 A1 ((2 * l4) + 1))), (5, .int (f7_byteAt f1 A1 (2 * l4))), (0, .ref h0), (1, .int p1), (2, .int p2), (4, .int l4)]) hx hb dX9_share_141 rfl hl (by decide) rfl (fun ls hl => ?_)
          refine lv_iinc (v := l4 + 1) (lv' := [(4, .int (l4 + 1)), (3, .int (l3 + (((f7_byteAt f1 A1 (2 * l4)) / x_1) + 1))), (8, .int x_2), (7, .int x_1), (6, .int (f7_byteAt f1 A1 ((2 * l4) + 1))), (5, .int (f7_byteAt f1 A1 (2 * l4))), (0, .ref h0), (1, .int p1), (2, .int p2)]) hx hb dX9_share_142 hl (k := 8) rfl rfl (by decide) rfl (fun ls hl => ?_)
          refine lv_goto (tgt := 50) hx hb dX9_share_145 (by decide) ?_
          exact hk50 f1 (l3 + (((f7_byteAt f1 A1 (2 * l4)) / x_1) + 1)) (l4 + 1) h _ _ _ hPD hS (lv_sub hl [6, 7, 8, 1, 0] rfl)
set_option maxRecDepth 100000 in
set_option maxHeartbeats 4000000 in
theorem ww_f9_share_l50  (C0 : Cx cX9_share 9 (some .int) RX9 p s m args meth c G DA) {h0 : Nat} {a0 : Nat → Nat} {wk : Option Nat} {a1 : Nat → Nat} {f0 : Nat → Int32} {A0 : Nat → Nat → Int32} {A1 : Nat → Nat → Int32} {p1 : Int32} {p2 : Int32}   {res : Int32 × (Nat → Int32)}  : ∀ (n : Nat) (f1 : Nat → Int32) (l3 : Int32) (l4 : Int32), f9_share_l50 f0 A0 A1 p1 p2  n f1 l3 l4 = some res → ∀ (H : Heap) (locs : List Loc) (ls : Array Slot), WD G DA (wX9 G h0 a0 wk f0 A0 ++ (wX7 G (a0 0) a1 f1 A1)) H → va_S DA s.heap H locs → lv_has ls 9 [(0, .ref h0), (1, .int p1), (2, .int p2), (3, .int l3), (4, .int l4)] → W p l e rmX9_share s m args below meth c H locs 0 0 (MQ below (QI G DA res.1 (wX9 G h0 a0 wk f0 A0 ++ (wX7 G (a0 0) a1 res.2 A1))) args s 0 0 DA) (F0 m 50 ls []) := by
  intro n
  induction n with
  | zero => intro f1 l3 l4 h; cases h
  | succ n ih => intro f1 l3 l4 h; exact ww_f9_share_b50 C0  ih f1 l3 l4 h
set_option maxRecDepth 100000 in
set_option maxHeartbeats 4000000 in
theorem kt_X9_share (l : Launch) (G : Gp) (h0 : Nat) (a0 : Nat → Nat) (wk : Option Nat) (a1 : Nat → Nat) (f0 : Nat → Int32) (A0 : Nat → Nat → Int32) (f1 : Nat → Int32) (A1 : Nat → Nat → Int32) (p1 : Int32) (p2 : Int32) : ∀ {r : Int32 × (Nat → Int32)}, f9_share f0 A0 f1 A1 p1 p2 = some r → CtrI l yX9_share cX9_share 9 (some .int) rmX9_share G [.ref h0, .int p1, .int p2] (wX9 G h0 a0 wk f0 A0 ++ (wX7 G (a0 0) a1 f1 A1)) r.1 (wX9 G h0 a0 wk f0 A0 ++ (wX7 G (a0 0) a1 r.2 A1)) := by
  intro res h
  refine ctrI_of (cc := cX9_share) (maxL := 9) (ret := (some .int)) (by decide +kernel) rfl (Nat.le_of_ble_eq_true rfl) (fun p e s m below meth c DA C0 hP hD ls hl => ?_)
  have hPD : WD G DA (wX9 G h0 a0 wk f0 A0 ++ (wX7 G (a0 0) a1 f1 A1)) s.heap := ⟨hP, hD⟩
  have hS : va_S DA s.heap s.heap [] := va_S.rf
  have hl : lv_has ls 9 [(0, .ref h0), (1, .int p1), (2, .int p2)] := hl
  obtain ⟨hx, hb, hml, hown, hts⟩ := C0.1
  have hK := C0.2.2.2.1
  unfold f9_share at h
  refine lv_iload_n hx hb dX9_share_0 rfl (lv_at hl 1 rfl) ?_
  refine lv_iconst (v := 1) hx hb dX9_share_1 (by decide) ?_
  refine lv_bipush (v := 12) hx hb dX9_share_2 (by decide) ?_
  refine kSI (As := [.int p1, .int 1, .int 12]) (rest := []) C0 (kt_X9_within l G  p1 1 12) gi_S_X9_90_X9_within (n := 3) rfl (by decide +kernel) ⟨rfl, rfl, Nat.le_of_ble_eq_true rfl, Nat.le_of_ble_eq_true rfl⟩ hPD hS [] [0, 1, 2, 3] [0, 1, 2, 3] (wN := (wX9 G h0 a0 wk f0 A0 ++ (wX7 G (a0 0) a1 f1 A1))) rfl rfl rfl rfl rfl hl.1 (Nat.le_of_ble_eq_true rfl) dX9_share_4 (fun H locs hPD hS => ?_)
  refine lv_if_eq (tgt := 33) hx hb dX9_share_7 (by decide) (fun cc1 => ?_) (fun cc1 => ?_)
  · have h := (if_pos cc1).symm.trans h
    refine lv_iconst (v := (-1)) hx hb dX9_share_33 (by decide) ?_
    obtain rfl := Option.some.inj h
    exact eI C0 hPD.1 hPD.2 hS rfl dX9_share_34
  · have h := (if_neg cc1).symm.trans h
    refine lv_iload_n hx hb dX9_share_10 rfl (lv_at hl 2 rfl) ?_
    refine lv_iconst (v := 0) hx hb dX9_share_11 (by decide) ?_
    refine lv_bipush (v := 7) hx hb dX9_share_12 (by decide) ?_
    refine kSI (As := [.int p2, .int 0, .int 7]) (rest := []) C0 (kt_X9_within l G  p2 0 7) gi_S_X9_90_X9_within (n := 3) rfl (by decide +kernel) ⟨rfl, rfl, Nat.le_of_ble_eq_true rfl, Nat.le_of_ble_eq_true rfl⟩ hPD hS [] [0, 1, 2, 3] [0, 1, 2, 3] (wN := (wX9 G h0 a0 wk f0 A0 ++ (wX7 G (a0 0) a1 f1 A1))) rfl rfl rfl rfl rfl hl.1 (Nat.le_of_ble_eq_true rfl) dX9_share_14 (fun H locs hPD hS => ?_)
    refine lv_if_eq (tgt := 33) hx hb dX9_share_17 (by decide) (fun cc1 => ?_) (fun cc1 => ?_)
    · have h := (if_pos cc1).symm.trans h
      refine lv_iconst (v := (-1)) hx hb dX9_share_33 (by decide) ?_
      obtain rfl := Option.some.inj h
      exact eI C0 hPD.1 hPD.2 hS rfl dX9_share_34
    · have h := (if_neg cc1).symm.trans h
      refine lv_aload_n hx hb dX9_share_20 rfl (lv_at hl 0 rfl) ?_
      refine va_get (D := G.1) (ci := 9) (v := .ref (a0 0)) (C := RX9) (T := TX9) (N := 15) hx hb hts inlX9 hown hK hPD.1 0 rfl rfl 0 (by decide) (hts _ gw_366) (fun _ h9 => h9) rfl dX9_share_21 ?_
      refine lv_iconst (v := 2) hx hb dX9_share_24 (by decide) ?_
      refine lv_iload_n hx hb dX9_share_25 rfl (lv_at hl 1 rfl) ?_
      refine lv_imul hx hb dX9_share_26 ?_
      refine kVI (As := [.int (2 * p1)]) (rest := []) C0 (kt_X7_holds l G (a0 0) a1 f1 A1 (2 * p1)) gi_V_X9_132_X7_holds (n := 1) rfl (by decide +kernel) rfl ⟨rfl, rfl, Nat.le_of_ble_eq_true rfl, Nat.le_of_ble_eq_true rfl⟩ hPD hS 2 7 rfl rfl rfl [2, 3] [0, 1] [0, 1, 2, 3] (wN := (wX9 G h0 a0 wk f0 A0 ++ (wX7 G (a0 0) a1 f1 A1))) rfl rfl rfl rfl rfl hl.1 (Nat.le_of_ble_eq_true rfl) dX9_share_27 (fun H locs hPD hS => ?_)
      refine lv_if_ne (tgt := 35) hx hb dX9_share_30 (by decide) (fun cc1 => ?_) (fun cc1 => ?_)
      · have h := (if_neg cc1).symm.trans h
        refine lv_aload_n hx hb dX9_share_35 rfl (lv_at hl 0 rfl) ?_
        refine va_get (D := G.1) (ci := 9) (v := .ref (a0 0)) (C := RX9) (T := TX9) (N := 15) hx hb hts inlX9 hown hK hPD.1 0 rfl rfl 0 (by decide) (hts _ gw_366) (fun _ h9 => h9) rfl dX9_share_36 ?_
        refine lv_iconst (v := 2) hx hb dX9_share_39 (by decide) ?_
        refine lv_iload_n hx hb dX9_share_40 rfl (lv_at hl 1 rfl) ?_
        refine lv_imul hx hb dX9_share_41 ?_
        refine kVV (As := [.int (2 * p1)]) (rest := []) C0 (kt_X7_open l G (a0 0) a1 f1 A1 (2 * p1)) gi_V_X9_135_X7_open (n := 1) rfl (by decide +kernel) rfl ⟨rfl, rfl, Nat.le_of_ble_eq_true rfl, Nat.le_of_ble_eq_true rfl⟩ hPD hS 2 7 rfl rfl rfl [2, 3] [0, 1] [0, 1, 2, 3] (wN := (wX9 G h0 a0 wk f0 A0 ++ (wX7 G (a0 0) a1 (f7_open f1 A1 (2 * p1)) A1))) rfl rfl rfl rfl rfl hl.1 (Nat.le_of_ble_eq_true rfl) dX9_share_42 (fun H locs hPD hS => ?_)
        refine lv_iconst (v := 0) hx hb dX9_share_45 (by decide) ?_
        refine lv_istore_n (lv' := [(3, .int 0), (0, .ref h0), (1, .int p1), (2, .int p2)]) hx hb dX9_share_46 rfl hl (by decide) rfl (fun ls hl => ?_)
        refine lv_iconst (v := 0) hx hb dX9_share_47 (by decide) ?_
        refine lv_istore (lv' := [(4, .int 0), (3, .int 0), (0, .ref h0), (1, .int p1), (2, .int p2)]) hx hb dX9_share_48 hl (by decide) rfl (fun ls hl => ?_)
        exact ww_f9_share_l50 C0 NF (f7_open f1 A1 (2 * p1)) 0 0 h _ _ _ hPD hS (lv_sub hl [2, 3, 4, 1, 0] rfl)
      · have h := (if_pos cc1).symm.trans h
        refine lv_iconst (v := (-1)) hx hb dX9_share_33 (by decide) ?_
        obtain rfl := Option.some.inj h
        exact eI C0 hPD.1 hPD.2 hS rfl dX9_share_34
abbrev rmX9_commonDivisor : Room := { frames := 1, cells := 0, slots := 0, locals := 21 }
set_option maxRecDepth 100000 in
set_option maxHeartbeats 4000000 in
theorem ww_f9_commonDivisor_b7  (C0 : Cx cX9_commonDivisor 6 (some .int) RX9 p s m args meth c G DA) {p0 : Int32} {p1 : Int32}  {k7 : Int32 → Int32 → Int32 → Option (Int32)} {res : Int32}  (hk7 : ∀ (l2 : Int32) (l3 : Int32) (l4 : Int32), k7 l2 l3 l4 = some res → ∀ (H : Heap) (locs : List Loc) (ls : Array Slot), WD G DA ([] : va_W) H → va_S DA s.heap H locs → lv_has ls 6 [(0, .int p0), (1, .int p1), (2, .int l2), (3, .int l3), (4, .int l4)] → W p l e rmX9_commonDivisor s m args below meth c H locs 0 0 (MQ below (QI G DA res ([] : va_W)) args s 0 0 DA) (F0 m 7 ls [])) : ∀ (l2 : Int32) (l3 : Int32) (l4 : Int32), f9_commonDivisor_b7 p0 p1  k7 l2 l3 l4 = some res → ∀ (H : Heap) (locs : List Loc) (ls : Array Slot), WD G DA ([] : va_W) H → va_S DA s.heap H locs → lv_has ls 6 [(0, .int p0), (1, .int p1), (2, .int l2), (3, .int l3), (4, .int l4)] → W p l e rmX9_commonDivisor s m args below meth c H locs 0 0 (MQ below (QI G DA res ([] : va_W)) args s 0 0 DA) (F0 m 7 ls []) := by
  obtain ⟨hx, hb, hml, hown, hts⟩ := C0.1
  have hK := C0.2.2.2.1
  intro l2 l3 l4 h _ _ _ hPD hS hl
  unfold f9_commonDivisor_b7 at h
  refine lv_iload hx hb dX9_commonDivisor_7 (lv_at hl 4 rfl) ?_
  refine lv_bipush (v := 100) hx hb dX9_commonDivisor_9 (by decide) ?_
  refine lv_icmp_ge (tgt := 34) hx hb dX9_commonDivisor_11 (by decide) (fun cc1 => ?_) (fun cc1 => ?_)
  · have h := (if_pos cc1).symm.trans h
    refine lv_iload_n hx hb dX9_commonDivisor_34 rfl (lv_at hl 2 rfl) ?_
    refine lv_iconst (v := 1) hx hb dX9_commonDivisor_35 (by decide) ?_
    refine va_mmax hx hb (hml.trans hl.1.symm) hown (hts _ gw_211) (hts _ gw_212) (hts _ gw_209) (hts _ gw_213) (Nat.le_of_ble_eq_true rfl) (Nat.le_of_ble_eq_true rfl) (Nat.zero_le _) (Nat.zero_le _) dX9_commonDivisor_36 ?_
    obtain rfl := Option.some.inj h
    exact eI C0 hPD.1 hPD.2 hS rfl dX9_commonDivisor_39
  · have h := (if_neg cc1).symm.trans h
    refine lv_iload_n hx hb dX9_commonDivisor_14 rfl (lv_at hl 3 rfl) ?_
    refine lv_if_eq (tgt := 34) hx hb dX9_commonDivisor_15 (by decide) (fun cc1 => ?_) (fun cc1 => ?_)
    · have h := (if_pos cc1).symm.trans h
      refine lv_iload_n hx hb dX9_commonDivisor_34 rfl (lv_at hl 2 rfl) ?_
      refine lv_iconst (v := 1) hx hb dX9_commonDivisor_35 (by decide) ?_
      refine va_mmax hx hb (hml.trans hl.1.symm) hown (hts _ gw_211) (hts _ gw_212) (hts _ gw_209) (hts _ gw_213) (Nat.le_of_ble_eq_true rfl) (Nat.le_of_ble_eq_true rfl) (Nat.zero_le _) (Nat.zero_le _) dX9_commonDivisor_36 ?_
      obtain rfl := Option.some.inj h
      exact eI C0 hPD.1 hPD.2 hS rfl dX9_commonDivisor_39
    · have h := (if_neg cc1).symm.trans h
      refine lv_iload_n hx hb dX9_commonDivisor_18 rfl (lv_at hl 2 rfl) ?_
      refine lv_iload_n hx hb dX9_commonDivisor_19 rfl (lv_at hl 3 rfl) ?_
      obtain ⟨hz, h⟩ := ob h
      refine lv_irem hx hb dX9_commonDivisor_20 hz ?_
      refine lv_istore (lv' := [(5, .int (irm l2 l3)), (0, .int p0), (1, .int p1), (2, .int l2), (3, .int l3), (4, .int l4)]) hx hb dX9_commonDivisor_21 hl (by decide) rfl (fun ls hl => ?_)
      refine lv_iload_n hx hb dX9_commonDivisor_23 rfl (lv_at hl 4 rfl) ?_
      refine lv_istore_n (lv' := [(2, .int l3), (5, .int (irm l2 l3)), (0, .int p0), (1, .int p1), (3, .int l3), (4, .int l4)]) hx hb dX9_commonDivisor_24 rfl hl (by decide) rfl (fun ls hl => ?_)
      refine lv_iload hx hb dX9_commonDivisor_25 (lv_at hl 1 rfl) ?_
      refine lv_istore_n (lv' := [(3, .int (irm l2 l3)), (2, .int l3), (5, .int (irm l2 l3)), (0, .int p0), (1, .int p1), (4, .int l4)]) hx hb dX9_commonDivisor_27 rfl hl (by decide) rfl (fun ls hl => ?_)
      refine lv_iinc (v := l4 + 1) (lv' := [(4, .int (l4 + 1)), (3, .int (irm l2 l3)), (2, .int l3), (5, .int (irm l2 l3)), (0, .int p0), (1, .int p1)]) hx hb dX9_commonDivisor_28 hl (k := 5) rfl rfl (by decide) rfl (fun ls hl => ?_)
      refine lv_goto (tgt := 7) hx hb dX9_commonDivisor_31 (by decide) ?_
      exact hk7 l3 (irm l2 l3) (l4 + 1) h _ _ _ hPD hS (lv_sub hl [4, 5, 2, 1, 0] rfl)
set_option maxRecDepth 100000 in
set_option maxHeartbeats 4000000 in
theorem ww_f9_commonDivisor_l7  (C0 : Cx cX9_commonDivisor 6 (some .int) RX9 p s m args meth c G DA) {p0 : Int32} {p1 : Int32}   {res : Int32}  : ∀ (n : Nat) (l2 : Int32) (l3 : Int32) (l4 : Int32), f9_commonDivisor_l7 p0 p1  n l2 l3 l4 = some res → ∀ (H : Heap) (locs : List Loc) (ls : Array Slot), WD G DA ([] : va_W) H → va_S DA s.heap H locs → lv_has ls 6 [(0, .int p0), (1, .int p1), (2, .int l2), (3, .int l3), (4, .int l4)] → W p l e rmX9_commonDivisor s m args below meth c H locs 0 0 (MQ below (QI G DA res ([] : va_W)) args s 0 0 DA) (F0 m 7 ls []) := by
  intro n
  induction n with
  | zero => intro l2 l3 l4 h; cases h
  | succ n ih => intro l2 l3 l4 h; exact ww_f9_commonDivisor_b7 C0  ih l2 l3 l4 h
set_option maxRecDepth 100000 in
set_option maxHeartbeats 4000000 in
theorem kt_X9_commonDivisor (l : Launch) (G : Gp) (p0 : Int32) (p1 : Int32) : ∀ {r : Int32}, f9_commonDivisor p0 p1 = some r → CtrI l yX9_commonDivisor cX9_commonDivisor 6 (some .int) rmX9_commonDivisor G [.int p0, .int p1] ([] : va_W) r ([] : va_W) := by
  intro res h
  refine ctrI_of (cc := cX9_commonDivisor) (maxL := 6) (ret := (some .int)) (by decide +kernel) rfl (Nat.le_of_ble_eq_true rfl) (fun p e s m below meth c DA C0 hP hD ls hl => ?_)
  have hPD : WD G DA ([] : va_W) s.heap := ⟨hP, hD⟩
  have hS : va_S DA s.heap s.heap [] := va_S.rf
  have hl : lv_has ls 6 [(0, .int p0), (1, .int p1)] := hl
  obtain ⟨hx, hb, hml, hown, hts⟩ := C0.1
  have hK := C0.2.2.2.1
  unfold f9_commonDivisor at h
  refine lv_iload_n hx hb dX9_commonDivisor_0 rfl (lv_at hl 0 rfl) ?_
  refine lv_istore_n (lv' := [(2, .int p0), (0, .int p0), (1, .int p1)]) hx hb dX9_commonDivisor_1 rfl hl (by decide) rfl (fun ls hl => ?_)
  refine lv_iload_n hx hb dX9_commonDivisor_2 rfl (lv_at hl 2 rfl) ?_
  refine lv_istore_n (lv' := [(3, .int p1), (2, .int p0), (0, .int p0), (1, .int p1)]) hx hb dX9_commonDivisor_3 rfl hl (by decide) rfl (fun ls hl => ?_)
  refine lv_iconst (v := 0) hx hb dX9_commonDivisor_4 (by decide) ?_
  refine lv_istore (lv' := [(4, .int 0), (3, .int p1), (2, .int p0), (0, .int p0), (1, .int p1)]) hx hb dX9_commonDivisor_5 hl (by decide) rfl (fun ls hl => ?_)
  exact ww_f9_commonDivisor_l7 C0 NF p0 p1 0 h _ _ _ hPD hS (lv_sub hl [3, 4, 2, 1, 0] rfl)
abbrev rmX9_odds : Room := { frames := 2, cells := 0, slots := 0, locals := 46 }
set_option maxRecDepth 100000 in
set_option maxHeartbeats 4000000 in
theorem ww_f9_odds_b131  (C0 : Cx cX9_odds 8 (some .int) RX9 p s m args meth c G DA) {h0 : Nat} {a0 : Nat → Nat} {wk : Option Nat} {a1 : Nat → Nat} {f0 : Nat → Int32} {A0 : Nat → Nat → Int32} {A1 : Nat → Nat → Int32} {p1 : Int32} {p2 : Int32}   {res : Int32 × (Nat → Int32)}  : ∀ (f1 : Nat → Int32) (l5 : Int32) (l6 : Int32), f9_odds_b131 f0 A0 A1 p1 p2  f1 l5 l6 = some res → ∀ (H : Heap) (locs : List Loc) (ls : Array Slot), WD G DA (wX9 G h0 a0 wk f0 A0 ++ (wX7 G (a0 0) a1 f1 A1)) H → va_S DA s.heap H locs → lv_has ls 8 [(0, .ref h0), (1, .int p1), (2, .int p2), (5, .int l5), (6, .int l6)] → W p l e rmX9_odds s m args below meth c H locs 0 0 (MQ below (QI G DA res.1 (wX9 G h0 a0 wk f0 A0 ++ (wX7 G (a0 0) a1 res.2 A1))) args s 0 0 DA) (F0 m 131 ls []) := by
  obtain ⟨hx, hb, hml, hown, hts⟩ := C0.1
  have hK := C0.2.2.2.1
  intro f1 l5 l6 h _ _ _ hPD hS hl
  unfold f9_odds_b131 at h
  refine lv_iload hx hb dX9_odds_131 (lv_at hl 4 rfl) ?_
  refine lv_iload hx hb dX9_odds_133 (lv_at hl 3 rfl) ?_
  obtain ⟨q_1, hq_1, h⟩ := ob2 h
  refine kSI (As := [.int l6, .int l5]) (rest := []) C0 (kt_X9_commonDivisor l G  l6 l5 hq_1) gi_S_X9_300_X9_commonDivisor (n := 2) rfl (by decide +kernel) ⟨rfl, rfl, Nat.le_of_ble_eq_true rfl, Nat.le_of_ble_eq_true rfl⟩ hPD hS [] [0, 1, 2, 3] [0, 1, 2, 3] (wN := (wX9 G h0 a0 wk f0 A0 ++ (wX7 G (a0 0) a1 f1 A1))) rfl rfl rfl rfl rfl hl.1 (Nat.le_of_ble_eq_true rfl) dX9_odds_135 (fun H locs hPD hS => ?_)
  refine lv_istore (lv' := [(7, .int q_1), (0, .ref h0), (1, .int p1), (2, .int p2), (5, .int l5), (6, .int l6)]) hx hb dX9_odds_138 hl (by decide) rfl (fun ls hl => ?_)
  refine lv_iload_n hx hb dX9_odds_140 rfl (lv_at hl 3 rfl) ?_
  refine lv_iconst (v := 2) hx hb dX9_odds_141 (by decide) ?_
  refine lv_irem hx hb dX9_odds_142 (by decide) ?_
  refine lv_if_ne (tgt := 151) hx hb dX9_odds_143 (by decide) (fun cc1 => ?_) (fun cc1 => ?_)
  · have h := (if_neg cc1).symm.trans h
    refine lv_iload hx hb dX9_odds_151 (lv_at hl 4 rfl) ?_
    refine lv_iload hx hb dX9_odds_153 (lv_at hl 0 rfl) ?_
    obtain ⟨hz, h⟩ := ob h
    refine lv_idiv hx hb dX9_odds_155 hz ?_
    obtain rfl := Option.some.inj h
    exact eI C0 hPD.1 hPD.2 hS rfl dX9_odds_156
  · have h := (if_pos cc1).symm.trans h
    refine lv_iload hx hb dX9_odds_146 (lv_at hl 5 rfl) ?_
    refine lv_goto (tgt := 153) hx hb dX9_odds_148 (by decide) ?_
    refine lv_iload hx hb dX9_odds_153 (lv_at hl 0 rfl) ?_
    obtain ⟨hz, h⟩ := ob h
    refine lv_idiv hx hb dX9_odds_155 hz ?_
    obtain rfl := Option.some.inj h
    exact eI C0 hPD.1 hPD.2 hS rfl dX9_odds_156
set_option maxRecDepth 100000 in
set_option maxHeartbeats 4000000 in
theorem ww_f9_odds_b51  (C0 : Cx cX9_odds 8 (some .int) RX9 p s m args meth c G DA) {h0 : Nat} {a0 : Nat → Nat} {wk : Option Nat} {a1 : Nat → Nat} {f0 : Nat → Int32} {A0 : Nat → Nat → Int32} {A1 : Nat → Nat → Int32} {p1 : Int32} {p2 : Int32}  {k51 : (Nat → Int32) → Int32 → Int32 → Int32 → Int32 → Option (Int32 × (Nat → Int32))} {res : Int32 × (Nat → Int32)}  (hk51 : ∀ (f1 : Nat → Int32) (l3 : Int32) (l4 : Int32) (l5 : Int32) (l6 : Int32), k51 f1 l3 l4 l5 l6 = some res → ∀ (H : Heap) (locs : List Loc) (ls : Array Slot), WD G DA (wX9 G h0 a0 wk f0 A0 ++ (wX7 G (a0 0) a1 f1 A1)) H → va_S DA s.heap H locs → lv_has ls 8 [(0, .ref h0), (1, .int p1), (2, .int p2), (3, .int l3), (4, .int l4), (5, .int l5), (6, .int l6)] → W p l e rmX9_odds s m args below meth c H locs 0 0 (MQ below (QI G DA res.1 (wX9 G h0 a0 wk f0 A0 ++ (wX7 G (a0 0) a1 res.2 A1))) args s 0 0 DA) (F0 m 51 ls [])) : ∀ (f1 : Nat → Int32) (l3 : Int32) (l4 : Int32) (l5 : Int32) (l6 : Int32), f9_odds_b51 f0 A0 A1 p1 p2  k51 f1 l3 l4 l5 l6 = some res → ∀ (H : Heap) (locs : List Loc) (ls : Array Slot), WD G DA (wX9 G h0 a0 wk f0 A0 ++ (wX7 G (a0 0) a1 f1 A1)) H → va_S DA s.heap H locs → lv_has ls 8 [(0, .ref h0), (1, .int p1), (2, .int p2), (3, .int l3), (4, .int l4), (5, .int l5), (6, .int l6)] → W p l e rmX9_odds s m args below meth c H locs 0 0 (MQ below (QI G DA res.1 (wX9 G h0 a0 wk f0 A0 ++ (wX7 G (a0 0) a1 res.2 A1))) args s 0 0 DA) (F0 m 51 ls []) := by
  obtain ⟨hx, hb, hml, hown, hts⟩ := C0.1
  have hK := C0.2.2.2.1
  intro f1 l3 l4 l5 l6 h _ _ _ hPD hS hl
  unfold f9_odds_b51 at h
  refine lv_iload hx hb dX9_odds_51 (lv_at hl 6 rfl) ?_
  refine lv_iload_n hx hb dX9_odds_53 rfl (lv_at hl 1 rfl) ?_
  refine lv_icmp_ge (tgt := 106) hx hb dX9_odds_54 (by decide) (fun cc1 => ?_) (fun cc1 => ?_)
  · have h := (if_pos cc1).symm.trans h
    refine lv_iload hx hb dX9_odds_106 (lv_at hl 5 rfl) ?_
    refine lv_iload hx hb dX9_odds_108 (lv_at hl 4 rfl) ?_
    refine lv_isub hx hb dX9_odds_110 ?_
    refine lv_istore (lv' := [(6, .int (l5 - l4)), (0, .ref h0), (1, .int p1), (2, .int p2), (3, .int l3), (4, .int l4), (5, .int l5)]) hx hb dX9_odds_111 hl (by decide) rfl (fun ls hl => ?_)
    refine lv_iload_n hx hb dX9_odds_113 rfl (lv_at hl 3 rfl) ?_
    refine lv_iconst (v := 4) hx hb dX9_odds_114 (by decide) ?_
    refine lv_icmp_ge (tgt := 131) hx hb dX9_odds_115 (by decide) (fun cc1 => ?_) (fun cc1 => ?_)
    · have h := (if_pos cc1).symm.trans h
      exact ww_f9_odds_b131 C0 f1 l5 (l5 - l4) h _ _ _ hPD hS (lv_sub hl [1, 2, 3, 6, 0] rfl)
    · have h := (if_neg cc1).symm.trans h
      refine lv_iload_n hx hb dX9_odds_118 rfl (lv_at hl 3 rfl) ?_
      refine lv_iconst (v := 2) hx hb dX9_odds_119 (by decide) ?_
      refine lv_icmp_ge (tgt := 127) hx hb dX9_odds_120 (by decide) (fun cc1 => ?_) (fun cc1 => ?_)
      · have h := (if_pos cc1).symm.trans h
        refine lv_iload hx hb dX9_odds_127 (lv_at hl 5 rfl) ?_
        refine lv_istore (lv' := [(6, .int l4), (0, .ref h0), (1, .int p1), (2, .int p2), (3, .int l3), (4, .int l4), (5, .int l5)]) hx hb dX9_odds_129 hl (by decide) rfl (fun ls hl => ?_)
        exact ww_f9_odds_b131 C0 f1 l5 l4 h _ _ _ hPD hS (lv_sub hl [1, 2, 3, 6, 0] rfl)
      · have h := (if_neg cc1).symm.trans h
        refine lv_iload_n hx hb dX9_odds_123 rfl (lv_at hl 4 rfl) ?_
        refine lv_goto (tgt := 129) hx hb dX9_odds_124 (by decide) ?_
        refine lv_istore (lv' := [(6, .int l3), (0, .ref h0), (1, .int p1), (2, .int p2), (3, .int l3), (4, .int l4), (5, .int l5)]) hx hb dX9_odds_129 hl (by decide) rfl (fun ls hl => ?_)
        exact ww_f9_odds_b131 C0 f1 l5 l3 h _ _ _ hPD hS (lv_sub hl [1, 2, 3, 6, 0] rfl)
  · have h := (if_neg cc1).symm.trans h
    refine lv_aload_n hx hb dX9_odds_57 rfl (lv_at hl 0 rfl) ?_
    refine va_get (D := G.1) (ci := 9) (v := .ref (a0 0)) (C := RX9) (T := TX9) (N := 15) hx hb hts inlX9 hown hK hPD.1 0 rfl rfl 0 (by decide) (hts _ gw_366) (fun _ h9 => h9) rfl dX9_odds_58 ?_
    refine lv_iload hx hb dX9_odds_61 (lv_at hl 6 rfl) ?_
    refine kVI (As := [.int l6]) (rest := []) C0 (kt_X7_byteAt l G (a0 0) a1 f1 A1 l6) gi_V_X9_224_X7_byteAt (n := 1) rfl (by decide +kernel) rfl ⟨rfl, rfl, Nat.le_of_ble_eq_true rfl, Nat.le_of_ble_eq_true rfl⟩ hPD hS 2 7 rfl rfl rfl [2, 3] [0, 1] [0, 1, 2, 3] (wN := (wX9 G h0 a0 wk f0 A0 ++ (wX7 G (a0 0) a1 f1 A1))) rfl rfl rfl rfl rfl hl.1 (Nat.le_of_ble_eq_true rfl) dX9_odds_63 (fun H locs hPD hS => ?_)
    refine lv_istore (lv' := [(7, .int (f7_byteAt f1 A1 l6)), (0, .ref h0), (1, .int p1), (2, .int p2), (3, .int l3), (4, .int l4), (5, .int l5), (6, .int l6)]) hx hb dX9_odds_66 hl (by decide) rfl (fun ls hl => ?_)
    refine lv_iload hx hb dX9_odds_68 (lv_at hl 0 rfl) ?_
    refine lv_bipush (v := 10) hx hb dX9_odds_70 (by decide) ?_
    refine lv_icmp_le (tgt := 78) hx hb dX9_odds_72 (by decide) (fun cc1 => ?_) (fun cc1 => ?_)
    · have h := (if_pos cc1).symm.trans h
      refine lv_iload_n hx hb dX9_odds_78 rfl (lv_at hl 4 rfl) ?_
      refine lv_iload hx hb dX9_odds_79 (lv_at hl 0 rfl) ?_
      refine lv_imul hx hb dX9_odds_81 ?_
      refine lv_istore_n (lv' := [(3, .int (l3 * (f7_byteAt f1 A1 l6))), (7, .int (f7_byteAt f1 A1 l6)), (0, .ref h0), (1, .int p1), (2, .int p2), (4, .int l4), (5, .int l5), (6, .int l6)]) hx hb dX9_odds_82 rfl hl (by decide) rfl (fun ls hl => ?_)
      refine lv_iload hx hb dX9_odds_83 (lv_at hl 5 rfl) ?_
      refine lv_bipush (v := 10) hx hb dX9_odds_85 (by decide) ?_
      refine lv_iload hx hb dX9_odds_87 (lv_at hl 1 rfl) ?_
      refine lv_isub hx hb dX9_odds_89 ?_
      refine lv_imul hx hb dX9_odds_90 ?_
      refine lv_istore (lv' := [(4, .int (l4 * (10 - (f7_byteAt f1 A1 l6)))), (3, .int (l3 * (f7_byteAt f1 A1 l6))), (7, .int (f7_byteAt f1 A1 l6)), (0, .ref h0), (1, .int p1), (2, .int p2), (5, .int l5), (6, .int l6)]) hx hb dX9_odds_91 hl (by decide) rfl (fun ls hl => ?_)
      refine lv_iload hx hb dX9_odds_93 (lv_at hl 6 rfl) ?_
      refine lv_bipush (v := 10) hx hb dX9_odds_95 (by decide) ?_
      refine lv_imul hx hb dX9_odds_97 ?_
      refine lv_istore (lv' := [(5, .int (l5 * 10)), (4, .int (l4 * (10 - (f7_byteAt f1 A1 l6)))), (3, .int (l3 * (f7_byteAt f1 A1 l6))), (7, .int (f7_byteAt f1 A1 l6)), (0, .ref h0), (1, .int p1), (2, .int p2), (6, .int l6)]) hx hb dX9_odds_98 hl (by decide) rfl (fun ls hl => ?_)
      refine lv_iinc (v := l6 + 1) (lv' := [(6, .int (l6 + 1)), (5, .int (l5 * 10)), (4, .int (l4 * (10 - (f7_byteAt f1 A1 l6)))), (3, .int (l3 * (f7_byteAt f1 A1 l6))), (7, .int (f7_byteAt f1 A1 l6)), (0, .ref h0), (1, .int p1), (2, .int p2)]) hx hb dX9_odds_100 hl (k := 7) rfl rfl (by decide) rfl (fun ls hl => ?_)
      refine lv_goto (tgt := 51) hx hb dX9_odds_103 (by decide) ?_
      exact hk51 f1 (l3 * (f7_byteAt f1 A1 l6)) (l4 * (10 - (f7_byteAt f1 A1 l6))) (l5 * 10) (l6 + 1) h _ _ _ hPD hS (lv_sub hl [5, 6, 7, 3, 2, 1, 0] rfl)
    · have h := (if_neg cc1).symm.trans h
      refine lv_bipush (v := (-2)) hx hb dX9_odds_75 (by decide) ?_
      obtain rfl := Option.some.inj h
      exact eI C0 hPD.1 hPD.2 hS rfl dX9_odds_77
set_option maxRecDepth 100000 in
set_option maxHeartbeats 4000000 in
theorem ww_f9_odds_l51  (C0 : Cx cX9_odds 8 (some .int) RX9 p s m args meth c G DA) {h0 : Nat} {a0 : Nat → Nat} {wk : Option Nat} {a1 : Nat → Nat} {f0 : Nat → Int32} {A0 : Nat → Nat → Int32} {A1 : Nat → Nat → Int32} {p1 : Int32} {p2 : Int32}   {res : Int32 × (Nat → Int32)}  : ∀ (n : Nat) (f1 : Nat → Int32) (l3 : Int32) (l4 : Int32) (l5 : Int32) (l6 : Int32), f9_odds_l51 f0 A0 A1 p1 p2  n f1 l3 l4 l5 l6 = some res → ∀ (H : Heap) (locs : List Loc) (ls : Array Slot), WD G DA (wX9 G h0 a0 wk f0 A0 ++ (wX7 G (a0 0) a1 f1 A1)) H → va_S DA s.heap H locs → lv_has ls 8 [(0, .ref h0), (1, .int p1), (2, .int p2), (3, .int l3), (4, .int l4), (5, .int l5), (6, .int l6)] → W p l e rmX9_odds s m args below meth c H locs 0 0 (MQ below (QI G DA res.1 (wX9 G h0 a0 wk f0 A0 ++ (wX7 G (a0 0) a1 res.2 A1))) args s 0 0 DA) (F0 m 51 ls []) := by
  intro n
  induction n with
  | zero => intro f1 l3 l4 l5 l6 h; cases h
  | succ n ih => intro f1 l3 l4 l5 l6 h; exact ww_f9_odds_b51 C0  ih f1 l3 l4 l5 l6 h
set_option maxRecDepth 100000 in
set_option maxHeartbeats 4000000 in
theorem kt_X9_odds (l : Launch) (G : Gp) (h0 : Nat) (a0 : Nat → Nat) (wk : Option Nat) (a1 : Nat → Nat) (f0 : Nat → Int32) (A0 : Nat → Nat → Int32) (f1 : Nat → Int32) (A1 : Nat → Nat → Int32) (p1 : Int32) (p2 : Int32) : ∀ {r : Int32 × (Nat → Int32)}, f9_odds f0 A0 f1 A1 p1 p2 = some r → CtrI l yX9_odds cX9_odds 8 (some .int) rmX9_odds G [.ref h0, .int p1, .int p2] (wX9 G h0 a0 wk f0 A0 ++ (wX7 G (a0 0) a1 f1 A1)) r.1 (wX9 G h0 a0 wk f0 A0 ++ (wX7 G (a0 0) a1 r.2 A1)) := by
  intro res h
  refine ctrI_of (cc := cX9_odds) (maxL := 8) (ret := (some .int)) (by decide +kernel) rfl (Nat.le_of_ble_eq_true rfl) (fun p e s m below meth c DA C0 hP hD ls hl => ?_)
  have hPD : WD G DA (wX9 G h0 a0 wk f0 A0 ++ (wX7 G (a0 0) a1 f1 A1)) s.heap := ⟨hP, hD⟩
  have hS : va_S DA s.heap s.heap [] := va_S.rf
  have hl : lv_has ls 8 [(0, .ref h0), (1, .int p1), (2, .int p2)] := hl
  obtain ⟨hx, hb, hml, hown, hts⟩ := C0.1
  have hK := C0.2.2.2.1
  unfold f9_odds at h
  refine lv_iload_n hx hb dX9_odds_0 rfl (lv_at hl 1 rfl) ?_
  refine lv_iconst (v := 1) hx hb dX9_odds_1 (by decide) ?_
  refine lv_bipush (v := 9) hx hb dX9_odds_2 (by decide) ?_
  refine kSI (As := [.int p1, .int 1, .int 9]) (rest := []) C0 (kt_X9_within l G  p1 1 9) gi_S_X9_90_X9_within (n := 3) rfl (by decide +kernel) ⟨rfl, rfl, Nat.le_of_ble_eq_true rfl, Nat.le_of_ble_eq_true rfl⟩ hPD hS [] [0, 1, 2, 3] [0, 1, 2, 3] (wN := (wX9 G h0 a0 wk f0 A0 ++ (wX7 G (a0 0) a1 f1 A1))) rfl rfl rfl rfl rfl hl.1 (Nat.le_of_ble_eq_true rfl) dX9_odds_4 (fun H locs hPD hS => ?_)
  refine lv_if_eq (tgt := 30) hx hb dX9_odds_7 (by decide) (fun cc1 => ?_) (fun cc1 => ?_)
  · have h := (if_pos cc1).symm.trans h
    refine lv_iconst (v := (-1)) hx hb dX9_odds_30 (by decide) ?_
    obtain rfl := Option.some.inj h
    exact eI C0 hPD.1 hPD.2 hS rfl dX9_odds_31
  · have h := (if_neg cc1).symm.trans h
    refine lv_iload_n hx hb dX9_odds_10 rfl (lv_at hl 2 rfl) ?_
    refine lv_iconst (v := 0) hx hb dX9_odds_11 (by decide) ?_
    refine lv_iconst (v := 5) hx hb dX9_odds_12 (by decide) ?_
    refine kSI (As := [.int p2, .int 0, .int 5]) (rest := []) C0 (kt_X9_within l G  p2 0 5) gi_S_X9_90_X9_within (n := 3) rfl (by decide +kernel) ⟨rfl, rfl, Nat.le_of_ble_eq_true rfl, Nat.le_of_ble_eq_true rfl⟩ hPD hS [] [0, 1, 2, 3] [0, 1, 2, 3] (wN := (wX9 G h0 a0 wk f0 A0 ++ (wX7 G (a0 0) a1 f1 A1))) rfl rfl rfl rfl rfl hl.1 (Nat.le_of_ble_eq_true rfl) dX9_odds_13 (fun H locs hPD hS => ?_)
    refine lv_if_eq (tgt := 30) hx hb dX9_odds_16 (by decide) (fun cc1 => ?_) (fun cc1 => ?_)
    · have h := (if_pos cc1).symm.trans h
      refine lv_iconst (v := (-1)) hx hb dX9_odds_30 (by decide) ?_
      obtain rfl := Option.some.inj h
      exact eI C0 hPD.1 hPD.2 hS rfl dX9_odds_31
    · have h := (if_neg cc1).symm.trans h
      refine lv_aload_n hx hb dX9_odds_19 rfl (lv_at hl 0 rfl) ?_
      refine va_get (D := G.1) (ci := 9) (v := .ref (a0 0)) (C := RX9) (T := TX9) (N := 15) hx hb hts inlX9 hown hK hPD.1 0 rfl rfl 0 (by decide) (hts _ gw_366) (fun _ h9 => h9) rfl dX9_odds_20 ?_
      refine lv_iload_n hx hb dX9_odds_23 rfl (lv_at hl 1 rfl) ?_
      refine kVI (As := [.int p1]) (rest := []) C0 (kt_X7_holds l G (a0 0) a1 f1 A1 p1) gi_V_X9_132_X7_holds (n := 1) rfl (by decide +kernel) rfl ⟨rfl, rfl, Nat.le_of_ble_eq_true rfl, Nat.le_of_ble_eq_true rfl⟩ hPD hS 2 7 rfl rfl rfl [2, 3] [0, 1] [0, 1, 2, 3] (wN := (wX9 G h0 a0 wk f0 A0 ++ (wX7 G (a0 0) a1 f1 A1))) rfl rfl rfl rfl rfl hl.1 (Nat.le_of_ble_eq_true rfl) dX9_odds_24 (fun H locs hPD hS => ?_)
      refine lv_if_ne (tgt := 32) hx hb dX9_odds_27 (by decide) (fun cc1 => ?_) (fun cc1 => ?_)
      · have h := (if_neg cc1).symm.trans h
        refine lv_aload_n hx hb dX9_odds_32 rfl (lv_at hl 0 rfl) ?_
        refine va_get (D := G.1) (ci := 9) (v := .ref (a0 0)) (C := RX9) (T := TX9) (N := 15) hx hb hts inlX9 hown hK hPD.1 0 rfl rfl 0 (by decide) (hts _ gw_366) (fun _ h9 => h9) rfl dX9_odds_33 ?_
        refine lv_iload_n hx hb dX9_odds_36 rfl (lv_at hl 1 rfl) ?_
        refine kVV (As := [.int p1]) (rest := []) C0 (kt_X7_open l G (a0 0) a1 f1 A1 p1) gi_V_X9_135_X7_open (n := 1) rfl (by decide +kernel) rfl ⟨rfl, rfl, Nat.le_of_ble_eq_true rfl, Nat.le_of_ble_eq_true rfl⟩ hPD hS 2 7 rfl rfl rfl [2, 3] [0, 1] [0, 1, 2, 3] (wN := (wX9 G h0 a0 wk f0 A0 ++ (wX7 G (a0 0) a1 (f7_open f1 A1 p1) A1))) rfl rfl rfl rfl rfl hl.1 (Nat.le_of_ble_eq_true rfl) dX9_odds_37 (fun H locs hPD hS => ?_)
        refine lv_iconst (v := 1) hx hb dX9_odds_40 (by decide) ?_
        refine lv_istore_n (lv' := [(3, .int 1), (0, .ref h0), (1, .int p1), (2, .int p2)]) hx hb dX9_odds_41 rfl hl (by decide) rfl (fun ls hl => ?_)
        refine lv_iconst (v := 1) hx hb dX9_odds_42 (by decide) ?_
        refine lv_istore (lv' := [(4, .int 1), (3, .int 1), (0, .ref h0), (1, .int p1), (2, .int p2)]) hx hb dX9_odds_43 hl (by decide) rfl (fun ls hl => ?_)
        refine lv_iconst (v := 1) hx hb dX9_odds_45 (by decide) ?_
        refine lv_istore (lv' := [(5, .int 1), (4, .int 1), (3, .int 1), (0, .ref h0), (1, .int p1), (2, .int p2)]) hx hb dX9_odds_46 hl (by decide) rfl (fun ls hl => ?_)
        refine lv_iconst (v := 0) hx hb dX9_odds_48 (by decide) ?_
        refine lv_istore (lv' := [(6, .int 0), (5, .int 1), (4, .int 1), (3, .int 1), (0, .ref h0), (1, .int p1), (2, .int p2)]) hx hb dX9_odds_49 hl (by decide) rfl (fun ls hl => ?_)
        exact ww_f9_odds_l51 C0 NF (f7_open f1 A1 p1) 1 1 1 0 h _ _ _ hPD hS (lv_sub hl [4, 5, 6, 3, 2, 1, 0] rfl)
      · have h := (if_pos cc1).symm.trans h
        refine lv_iconst (v := (-1)) hx hb dX9_odds_30 (by decide) ?_
        obtain rfl := Option.some.inj h
        exact eI C0 hPD.1 hPD.2 hS rfl dX9_odds_31
abbrev rmX10_in : Room := { frames := 0, cells := 0, slots := 0, locals := 0 }
set_option maxRecDepth 100000 in
set_option maxHeartbeats 4000000 in
theorem kt_X10_in (l : Launch) (G : Gp) (p0 : Int32) (p1 : Int32) (p2 : Int32) : CtrI l yX10_in cX10_in 3 (some .boolean) rmX10_in G [.int p0, .int p1, .int p2] ([] : va_W) (f10_in p0 p1 p2) ([] : va_W) := by
  obtain ⟨res, h⟩ : ∃ res, f10_in p0 p1 p2 = res := ⟨_, rfl⟩
  rw [h]
  refine ctrI_of (cc := cX10_in) (maxL := 3) (ret := (some .boolean)) (by decide +kernel) rfl (Nat.le_of_ble_eq_true rfl) (fun p e s m below meth c DA C0 hP hD ls hl => ?_)
  have hPD : WD G DA ([] : va_W) s.heap := ⟨hP, hD⟩
  have hS : va_S DA s.heap s.heap [] := va_S.rf
  have hl : lv_has ls 3 [(0, .int p0), (1, .int p1), (2, .int p2)] := hl
  obtain ⟨hx, hb, hml, hown, hts⟩ := C0.1
  have hK := C0.2.2.2.1
  unfold f10_in at h
  refine lv_iload_n hx hb dX10_in_0 rfl (lv_at hl 0 rfl) ?_
  refine lv_iload_n hx hb dX10_in_1 rfl (lv_at hl 1 rfl) ?_
  refine lv_icmp_lt (tgt := 14) hx hb dX10_in_2 (by decide) (fun cc1 => ?_) (fun cc1 => ?_)
  · have h := (if_pos cc1).symm.trans h
    refine lv_iconst (v := 0) hx hb dX10_in_14 (by decide) ?_
    subst h
    exact eZ C0 hPD.1 hPD.2 hS rfl rfl dX10_in_15
  · have h := (if_neg cc1).symm.trans h
    refine lv_iload_n hx hb dX10_in_5 rfl (lv_at hl 0 rfl) ?_
    refine lv_iload_n hx hb dX10_in_6 rfl (lv_at hl 2 rfl) ?_
    refine lv_icmp_gt (tgt := 14) hx hb dX10_in_7 (by decide) (fun cc1 => ?_) (fun cc1 => ?_)
    · have h := (if_pos cc1).symm.trans h
      refine lv_iconst (v := 0) hx hb dX10_in_14 (by decide) ?_
      subst h
      exact eZ C0 hPD.1 hPD.2 hS rfl rfl dX10_in_15
    · have h := (if_neg cc1).symm.trans h
      refine lv_iconst (v := 1) hx hb dX10_in_10 (by decide) ?_
      refine lv_goto (tgt := 15) hx hb dX10_in_11 (by decide) ?_
      subst h
      exact eZ C0 hPD.1 hPD.2 hS rfl rfl dX10_in_15
abbrev rmX10_min : Room := { frames := 0, cells := 0, slots := 0, locals := 0 }
set_option maxRecDepth 100000 in
set_option maxHeartbeats 4000000 in
theorem kt_X10_min (l : Launch) (G : Gp) (p0 : Int32) (p1 : Int32) : CtrI l yX10_min cX10_min 2 (some .int) rmX10_min G [.int p0, .int p1] ([] : va_W) (f10_min p0 p1) ([] : va_W) := by
  obtain ⟨res, h⟩ : ∃ res, f10_min p0 p1 = res := ⟨_, rfl⟩
  rw [h]
  refine ctrI_of (cc := cX10_min) (maxL := 2) (ret := (some .int)) (by decide +kernel) rfl (Nat.le_of_ble_eq_true rfl) (fun p e s m below meth c DA C0 hP hD ls hl => ?_)
  have hPD : WD G DA ([] : va_W) s.heap := ⟨hP, hD⟩
  have hS : va_S DA s.heap s.heap [] := va_S.rf
  have hl : lv_has ls 2 [(0, .int p0), (1, .int p1)] := hl
  obtain ⟨hx, hb, hml, hown, hts⟩ := C0.1
  have hK := C0.2.2.2.1
  unfold f10_min at h
  refine lv_iload_n hx hb dX10_min_0 rfl (lv_at hl 0 rfl) ?_
  refine lv_iload_n hx hb dX10_min_1 rfl (lv_at hl 1 rfl) ?_
  refine lv_icmp_ge (tgt := 9) hx hb dX10_min_2 (by decide) (fun cc1 => ?_) (fun cc1 => ?_)
  · have h := (if_pos cc1).symm.trans h
    refine lv_iload_n hx hb dX10_min_9 rfl (lv_at hl 1 rfl) ?_
    subst h
    exact eI C0 hPD.1 hPD.2 hS rfl dX10_min_10
  · have h := (if_neg cc1).symm.trans h
    refine lv_iload_n hx hb dX10_min_5 rfl (lv_at hl 0 rfl) ?_
    refine lv_goto (tgt := 10) hx hb dX10_min_6 (by decide) ?_
    subst h
    exact eI C0 hPD.1 hPD.2 hS rfl dX10_min_10
abbrev rmX10_max : Room := { frames := 0, cells := 0, slots := 0, locals := 0 }
set_option maxRecDepth 100000 in
set_option maxHeartbeats 4000000 in
theorem kt_X10_max (l : Launch) (G : Gp) (p0 : Int32) (p1 : Int32) : CtrI l yX10_max cX10_max 2 (some .int) rmX10_max G [.int p0, .int p1] ([] : va_W) (f10_max p0 p1) ([] : va_W) := by
  obtain ⟨res, h⟩ : ∃ res, f10_max p0 p1 = res := ⟨_, rfl⟩
  rw [h]
  refine ctrI_of (cc := cX10_max) (maxL := 2) (ret := (some .int)) (by decide +kernel) rfl (Nat.le_of_ble_eq_true rfl) (fun p e s m below meth c DA C0 hP hD ls hl => ?_)
  have hPD : WD G DA ([] : va_W) s.heap := ⟨hP, hD⟩
  have hS : va_S DA s.heap s.heap [] := va_S.rf
  have hl : lv_has ls 2 [(0, .int p0), (1, .int p1)] := hl
  obtain ⟨hx, hb, hml, hown, hts⟩ := C0.1
  have hK := C0.2.2.2.1
  unfold f10_max at h
  refine lv_iload_n hx hb dX10_max_0 rfl (lv_at hl 0 rfl) ?_
  refine lv_iload_n hx hb dX10_max_1 rfl (lv_at hl 1 rfl) ?_
  refine lv_icmp_le (tgt := 9) hx hb dX10_max_2 (by decide) (fun cc1 => ?_) (fun cc1 => ?_)
  · have h := (if_pos cc1).symm.trans h
    refine lv_iload_n hx hb dX10_max_9 rfl (lv_at hl 1 rfl) ?_
    subst h
    exact eI C0 hPD.1 hPD.2 hS rfl dX10_max_10
  · have h := (if_neg cc1).symm.trans h
    refine lv_iload_n hx hb dX10_max_5 rfl (lv_at hl 0 rfl) ?_
    refine lv_goto (tgt := 10) hx hb dX10_max_6 (by decide) ?_
    subst h
    exact eI C0 hPD.1 hPD.2 hS rfl dX10_max_10
abbrev rmX10_has : Room := { frames := 0, cells := 0, slots := 0, locals := 0 }
set_option maxRecDepth 100000 in
set_option maxHeartbeats 4000000 in
theorem kt_X10_has (l : Launch) (G : Gp) (p0 : Int32) (p1 : Int32) : CtrI l yX10_has cX10_has 2 (some .boolean) rmX10_has G [.int p0, .int p1] ([] : va_W) (f10_has p0 p1) ([] : va_W) := by
  obtain ⟨res, h⟩ : ∃ res, f10_has p0 p1 = res := ⟨_, rfl⟩
  rw [h]
  refine ctrI_of (cc := cX10_has) (maxL := 2) (ret := (some .boolean)) (by decide +kernel) rfl (Nat.le_of_ble_eq_true rfl) (fun p e s m below meth c DA C0 hP hD ls hl => ?_)
  have hPD : WD G DA ([] : va_W) s.heap := ⟨hP, hD⟩
  have hS : va_S DA s.heap s.heap [] := va_S.rf
  have hl : lv_has ls 2 [(0, .int p0), (1, .int p1)] := hl
  obtain ⟨hx, hb, hml, hown, hts⟩ := C0.1
  have hK := C0.2.2.2.1
  unfold f10_has at h
  refine lv_iload_n hx hb dX10_has_0 rfl (lv_at hl 0 rfl) ?_
  refine lv_iload_n hx hb dX10_has_1 rfl (lv_at hl 1 rfl) ?_
  refine lv_ishr hx hb dX10_has_2 ?_
  refine lv_iconst (v := 1) hx hb dX10_has_3 (by decide) ?_
  refine lv_iand hx hb dX10_has_4 ?_
  refine lv_iconst (v := 1) hx hb dX10_has_5 (by decide) ?_
  refine lv_icmp_ne (tgt := 13) hx hb dX10_has_6 (by decide) (fun cc1 => ?_) (fun cc1 => ?_)
  · have h := (if_neg cc1).symm.trans h
    refine lv_iconst (v := 0) hx hb dX10_has_13 (by decide) ?_
    subst h
    exact eZ C0 hPD.1 hPD.2 hS rfl rfl dX10_has_14
  · have h := (if_pos cc1).symm.trans h
    refine lv_iconst (v := 1) hx hb dX10_has_9 (by decide) ?_
    refine lv_goto (tgt := 14) hx hb dX10_has_10 (by decide) ?_
    subst h
    exact eZ C0 hPD.1 hPD.2 hS rfl rfl dX10_has_14
abbrev rmX10_bits : Room := { frames := 0, cells := 0, slots := 0, locals := 0 }
set_option maxRecDepth 100000 in
set_option maxHeartbeats 4000000 in
theorem ww_f10_bits_b4  (C0 : Cx cX10_bits 3 (some .int) RX10 p s m args meth c G DA) {p0 : Int32}  {k4 : Int32 → Int32 → Option (Int32)} {res : Int32}  (hk4 : ∀ (l1 : Int32) (l2 : Int32), k4 l1 l2 = some res → ∀ (H : Heap) (locs : List Loc) (ls : Array Slot), WD G DA ([] : va_W) H → va_S DA s.heap H locs → lv_has ls 3 [(0, .int p0), (1, .int l1), (2, .int l2)] → W p l e rmX10_bits s m args below meth c H locs 0 0 (MQ below (QI G DA res ([] : va_W)) args s 0 0 DA) (F0 m 4 ls [])) : ∀ (l1 : Int32) (l2 : Int32), f10_bits_b4 p0  k4 l1 l2 = some res → ∀ (H : Heap) (locs : List Loc) (ls : Array Slot), WD G DA ([] : va_W) H → va_S DA s.heap H locs → lv_has ls 3 [(0, .int p0), (1, .int l1), (2, .int l2)] → W p l e rmX10_bits s m args below meth c H locs 0 0 (MQ below (QI G DA res ([] : va_W)) args s 0 0 DA) (F0 m 4 ls []) := by
  obtain ⟨hx, hb, hml, hown, hts⟩ := C0.1
  have hK := C0.2.2.2.1
  intro l1 l2 h _ _ _ hPD hS hl
  unfold f10_bits_b4 at h
  refine lv_iload_n hx hb dX10_bits_4 rfl (lv_at hl 2 rfl) ?_
  refine lv_bipush (v := 16) hx hb dX10_bits_5 (by decide) ?_
  refine lv_icmp_ge (tgt := 24) hx hb dX10_bits_7 (by decide) (fun cc1 => ?_) (fun cc1 => ?_)
  · have h := (if_pos cc1).symm.trans h
    refine lv_iload_n hx hb dX10_bits_24 rfl (lv_at hl 1 rfl) ?_
    obtain rfl := Option.some.inj h
    exact eI C0 hPD.1 hPD.2 hS rfl dX10_bits_25
  · have h := (if_neg cc1).symm.trans h
    refine lv_iload_n hx hb dX10_bits_10 rfl (lv_at hl 1 rfl) ?_
    refine lv_iload_n hx hb dX10_bits_11 rfl (lv_at hl 0 rfl) ?_
    refine lv_iload_n hx hb dX10_bits_12 rfl (lv_at hl 2 rfl) ?_
    refine lv_ishr hx hb dX10_bits_13 ?_
    refine lv_iconst (v := 1) hx hb dX10_bits_14 (by decide) ?_
    refine lv_iand hx hb dX10_bits_15 ?_
    refine lv_iadd hx hb dX10_bits_16 ?_
    refine lv_istore_n (lv' := [(1, .int (l1 + ((shr p0 l2) &&& 1))), (0, .int p0), (2, .int l2)]) hx hb dX10_bits_17 rfl hl (by decide) rfl (fun ls hl => ?_)
    refine lv_iinc (v := l2 + 1) (lv' := [(2, .int (l2 + 1)), (1, .int (l1 + ((shr p0 l2) &&& 1))), (0, .int p0)]) hx hb dX10_bits_18 hl (k := 2) rfl rfl (by decide) rfl (fun ls hl => ?_)
    refine lv_goto (tgt := 4) hx hb dX10_bits_21 (by decide) ?_
    exact hk4 (l1 + ((shr p0 l2) &&& 1)) (l2 + 1) h _ _ _ hPD hS (lv_sub hl [2, 1, 0] rfl)
set_option maxRecDepth 100000 in
set_option maxHeartbeats 4000000 in
theorem ww_f10_bits_l4  (C0 : Cx cX10_bits 3 (some .int) RX10 p s m args meth c G DA) {p0 : Int32}   {res : Int32}  : ∀ (n : Nat) (l1 : Int32) (l2 : Int32), f10_bits_l4 p0  n l1 l2 = some res → ∀ (H : Heap) (locs : List Loc) (ls : Array Slot), WD G DA ([] : va_W) H → va_S DA s.heap H locs → lv_has ls 3 [(0, .int p0), (1, .int l1), (2, .int l2)] → W p l e rmX10_bits s m args below meth c H locs 0 0 (MQ below (QI G DA res ([] : va_W)) args s 0 0 DA) (F0 m 4 ls []) := by
  intro n
  induction n with
  | zero => intro l1 l2 h; cases h
  | succ n ih => intro l1 l2 h; exact ww_f10_bits_b4 C0  ih l1 l2 h
set_option maxRecDepth 100000 in
set_option maxHeartbeats 4000000 in
theorem kt_X10_bits (l : Launch) (G : Gp) (p0 : Int32) : ∀ {r : Int32}, f10_bits p0 = some r → CtrI l yX10_bits cX10_bits 3 (some .int) rmX10_bits G [.int p0] ([] : va_W) r ([] : va_W) := by
  intro res h
  refine ctrI_of (cc := cX10_bits) (maxL := 3) (ret := (some .int)) (by decide +kernel) rfl (Nat.le_of_ble_eq_true rfl) (fun p e s m below meth c DA C0 hP hD ls hl => ?_)
  have hPD : WD G DA ([] : va_W) s.heap := ⟨hP, hD⟩
  have hS : va_S DA s.heap s.heap [] := va_S.rf
  have hl : lv_has ls 3 [(0, .int p0)] := hl
  obtain ⟨hx, hb, hml, hown, hts⟩ := C0.1
  have hK := C0.2.2.2.1
  unfold f10_bits at h
  refine lv_iconst (v := 0) hx hb dX10_bits_0 (by decide) ?_
  refine lv_istore_n (lv' := [(1, .int 0), (0, .int p0)]) hx hb dX10_bits_1 rfl hl (by decide) rfl (fun ls hl => ?_)
  refine lv_iconst (v := 0) hx hb dX10_bits_2 (by decide) ?_
  refine lv_istore_n (lv' := [(2, .int 0), (1, .int 0), (0, .int p0)]) hx hb dX10_bits_3 rfl hl (by decide) rfl (fun ls hl => ?_)
  exact ww_f10_bits_l4 C0 NF 0 0 h _ _ _ hPD hS (lv_sub hl [2, 1, 0] rfl)
abbrev rmX10_copies : Room := { frames := 0, cells := 0, slots := 0, locals := 0 }
set_option maxRecDepth 100000 in
set_option maxHeartbeats 4000000 in
theorem ww_f10_copies_b2  (C0 : Cx cX10_copies 3 none RX10 p s m args meth c G DA) {q0 : Nat} {q1 : Nat} {n0 : Nat} {xs0 : Nat → Int32} {n1 : Nat} (hn0 : n0 < 2147483648) (hn1 : n1 < 2147483648) {k2 : (Nat → Int32) → Int32 → Option ((Nat → Int32))} {res : (Nat → Int32)}  (hk2 : ∀ (xs1 : Nat → Int32) (l2 : Int32), k2 xs1 l2 = some res → ∀ (H : Heap) (locs : List Loc) (ls : Array Slot), WD G DA (wI G q0 n0 xs0 ++ (wI G q1 n1 xs1)) H → va_S DA s.heap H locs → lv_has ls 3 [(0, .ref q0), (1, .ref q1), (2, .int l2)] → W p l e rmX10_copies s m args below meth c H locs 0 0 (MQ below (QV G DA (wI G q0 n0 xs0 ++ (wI G q1 n1 res))) args s 0 0 DA) (F0 m 2 ls [])) : ∀ (xs1 : Nat → Int32) (l2 : Int32), f10_copies_b2 n0 xs0 n1  k2 xs1 l2 = some res → ∀ (H : Heap) (locs : List Loc) (ls : Array Slot), WD G DA (wI G q0 n0 xs0 ++ (wI G q1 n1 xs1)) H → va_S DA s.heap H locs → lv_has ls 3 [(0, .ref q0), (1, .ref q1), (2, .int l2)] → W p l e rmX10_copies s m args below meth c H locs 0 0 (MQ below (QV G DA (wI G q0 n0 xs0 ++ (wI G q1 n1 res))) args s 0 0 DA) (F0 m 2 ls []) := by
  obtain ⟨hx, hb, hml, hown, hts⟩ := C0.1
  have hK := C0.2.2.2.1
  intro xs1 l2 h _ _ _ hPD hS hl
  unfold f10_copies_b2 at h
  refine lv_iload_n hx hb dX10_copies_2 rfl (lv_at hl 2 rfl) ?_
  refine lv_bipush (v := 76) hx hb dX10_copies_3 (by decide) ?_
  refine lv_icmp_ge (tgt := 20) hx hb dX10_copies_5 (by decide) (fun cc1 => ?_) (fun cc1 => ?_)
  · have h := (if_pos cc1).symm.trans h
    obtain rfl := Option.some.inj h
    exact eV C0 hPD.1 hPD.2 hS dX10_copies_20
  · have h := (if_neg cc1).symm.trans h
    refine lv_aload_n hx hb dX10_copies_8 rfl (lv_at hl 1 rfl) ?_
    refine lv_iload_n hx hb dX10_copies_9 rfl (lv_at hl 2 rfl) ?_
    refine lv_aload_n hx hb dX10_copies_10 rfl (lv_at hl 0 rfl) ?_
    refine lv_iload_n hx hb dX10_copies_11 rfl (lv_at hl 2 rfl) ?_
    obtain ⟨hi_1, h⟩ := ob h
    refine va_iald hx hb hK hPD.1 0 1 rfl rfl hi_1 dX10_copies_12 ?_
    obtain ⟨hi_2, h⟩ := ob h
    refine va_iast hx hb hK hPD.1 hPD.2 hS 1 1 rfl rfl hi_2 dX10_copies_13 (fun H locs hP hD hS => ?_)
    obtain ⟨y1_3, ey1_3, h⟩ := lvl h
    have hPD : WD G DA (wI G q0 n0 xs0 ++ (wI G q1 n1 y1_3)) H := by rw [ey1_3]; exact ⟨hP, hD⟩
    clear ey1_3 hP hD
    refine lv_iinc (v := l2 + 1) (lv' := [(2, .int (l2 + 1)), (0, .ref q0), (1, .ref q1)]) hx hb dX10_copies_14 hl (k := 2) rfl rfl (by decide) rfl (fun ls hl => ?_)
    refine lv_goto (tgt := 2) hx hb dX10_copies_17 (by decide) ?_
    exact hk2 y1_3 (l2 + 1) h _ _ _ hPD hS (lv_sub hl [1, 2, 0] rfl)
set_option maxRecDepth 100000 in
set_option maxHeartbeats 4000000 in
theorem ww_f10_copies_l2  (C0 : Cx cX10_copies 3 none RX10 p s m args meth c G DA) {q0 : Nat} {q1 : Nat} {n0 : Nat} {xs0 : Nat → Int32} {n1 : Nat} (hn0 : n0 < 2147483648) (hn1 : n1 < 2147483648)  {res : (Nat → Int32)}  : ∀ (n : Nat) (xs1 : Nat → Int32) (l2 : Int32), f10_copies_l2 n0 xs0 n1  n xs1 l2 = some res → ∀ (H : Heap) (locs : List Loc) (ls : Array Slot), WD G DA (wI G q0 n0 xs0 ++ (wI G q1 n1 xs1)) H → va_S DA s.heap H locs → lv_has ls 3 [(0, .ref q0), (1, .ref q1), (2, .int l2)] → W p l e rmX10_copies s m args below meth c H locs 0 0 (MQ below (QV G DA (wI G q0 n0 xs0 ++ (wI G q1 n1 res))) args s 0 0 DA) (F0 m 2 ls []) := by
  intro n
  induction n with
  | zero => intro xs1 l2 h; cases h
  | succ n ih => intro xs1 l2 h; exact ww_f10_copies_b2 C0 hn0 hn1  ih xs1 l2 h
set_option maxRecDepth 100000 in
set_option maxHeartbeats 4000000 in
theorem kt_X10_copies (l : Launch) (G : Gp) (q0 : Nat) (q1 : Nat) (n0 : Nat) (xs0 : Nat → Int32) (n1 : Nat) (xs1 : Nat → Int32) (hn0 : n0 < 2147483648) (hn1 : n1 < 2147483648) : ∀ {r : (Nat → Int32)}, f10_copies n0 xs0 n1 xs1 = some r → CtrV l yX10_copies cX10_copies 3 none rmX10_copies G [.ref q0, .ref q1] (wI G q0 n0 xs0 ++ (wI G q1 n1 xs1)) (wI G q0 n0 xs0 ++ (wI G q1 n1 r)) := by
  intro res h
  refine ctrV_of (cc := cX10_copies) (maxL := 3) (ret := none) (by decide +kernel) rfl (Nat.le_of_ble_eq_true rfl) (fun p e s m below meth c DA C0 hP hD ls hl => ?_)
  have hPD : WD G DA (wI G q0 n0 xs0 ++ (wI G q1 n1 xs1)) s.heap := ⟨hP, hD⟩
  have hS : va_S DA s.heap s.heap [] := va_S.rf
  have hl : lv_has ls 3 [(0, .ref q0), (1, .ref q1)] := hl
  obtain ⟨hx, hb, hml, hown, hts⟩ := C0.1
  have hK := C0.2.2.2.1
  unfold f10_copies at h
  refine lv_iconst (v := 0) hx hb dX10_copies_0 (by decide) ?_
  refine lv_istore_n (lv' := [(2, .int 0), (0, .ref q0), (1, .ref q1)]) hx hb dX10_copies_1 rfl hl (by decide) rfl (fun ls hl => ?_)
  exact ww_f10_copies_l2 C0 hn0 hn1 NF xs1 0 h _ _ _ hPD hS (lv_sub hl [1, 2, 0] rfl)
abbrev rmX10_isTold : Room := { frames := 1, cells := 0, slots := 0, locals := 22 }
set_option maxRecDepth 100000 in
set_option maxHeartbeats 4000000 in
theorem kt_X10_isTold (l : Launch) (G : Gp) (h0 : Nat) (a0 : Nat → Nat) (f0 : Nat → Int32) (A0 : Nat → Nat → Int32) (p1 : Int32) : CtrI l yX10_isTold cX10_isTold 2 (some .boolean) rmX10_isTold G [.ref h0, .int p1] (wX10 G h0 a0 f0 A0) (f10_isTold f0 A0 p1) (wX10 G h0 a0 f0 A0) := by
  obtain ⟨res, h⟩ : ∃ res, f10_isTold f0 A0 p1 = res := ⟨_, rfl⟩
  rw [h]
  refine ctrI_of (cc := cX10_isTold) (maxL := 2) (ret := (some .boolean)) (by decide +kernel) rfl (Nat.le_of_ble_eq_true rfl) (fun p e s m below meth c DA C0 hP hD ls hl => ?_)
  have hPD : WD G DA (wX10 G h0 a0 f0 A0) s.heap := ⟨hP, hD⟩
  have hS : va_S DA s.heap s.heap [] := va_S.rf
  have hl : lv_has ls 2 [(0, .ref h0), (1, .int p1)] := hl
  obtain ⟨hx, hb, hml, hown, hts⟩ := C0.1
  have hK := C0.2.2.2.1
  unfold f10_isTold at h
  refine lv_iload_n hx hb dX10_isTold_0 rfl (lv_at hl 1 rfl) ?_
  refine lv_iconst (v := 0) hx hb dX10_isTold_1 (by decide) ?_
  refine lv_bipush (v := 15) hx hb dX10_isTold_2 (by decide) ?_
  refine kSI (As := [.int p1, .int 0, .int 15]) (rest := []) C0 (kt_X10_in l G  p1 0 15) gi_S_X10_112_X10_in (n := 3) rfl (by decide +kernel) ⟨rfl, rfl, Nat.le_of_ble_eq_true rfl, Nat.le_of_ble_eq_true rfl⟩ hPD hS [] [0, 1, 2, 3, 4, 5, 6, 7, 8, 9, 10, 11, 12, 13, 14, 15, 16, 17, 18, 19, 20, 21, 22, 23, 24, 25, 26, 27, 28, 29, 30, 31, 32, 33] [0, 1, 2, 3, 4, 5, 6, 7, 8, 9, 10, 11, 12, 13, 14, 15, 16, 17, 18, 19, 20, 21, 22, 23, 24, 25, 26, 27, 28, 29, 30, 31, 32, 33] (wN := (wX10 G h0 a0 f0 A0)) rfl rfl rfl rfl rfl hl.1 (Nat.le_of_ble_eq_true rfl) dX10_isTold_4 (fun H locs hPD hS => ?_)
  refine lv_if_eq (tgt := 25) hx hb dX10_isTold_7 (by decide) (fun cc1 => ?_) (fun cc1 => ?_)
  · have h := (if_pos cc1).symm.trans h
    refine lv_iconst (v := 0) hx hb dX10_isTold_25 (by decide) ?_
    subst h
    exact eZ C0 hPD.1 hPD.2 hS rfl rfl dX10_isTold_26
  · have h := (if_neg cc1).symm.trans h
    refine lv_aload_n hx hb dX10_isTold_10 rfl (lv_at hl 0 rfl) ?_
    refine va_get (D := G.1) (ci := 10) (v := .int (f0 6)) (C := RX10) (T := TX10) (N := 52) hx hb hts inlX10 hown hK hPD.1 0 rfl rfl 6 (by decide) (hts _ gw_535) (fun _ h9 => h9) rfl dX10_isTold_11 ?_
    refine lv_iload_n hx hb dX10_isTold_14 rfl (lv_at hl 1 rfl) ?_
    refine kSI (As := [.int (f0 6), .int p1]) (rest := []) C0 (kt_X10_has l G  (f0 6) p1) gi_S_X10_120_X10_has (n := 2) rfl (by decide +kernel) ⟨rfl, rfl, Nat.le_of_ble_eq_true rfl, Nat.le_of_ble_eq_true rfl⟩ hPD hS [] [0, 1, 2, 3, 4, 5, 6, 7, 8, 9, 10, 11, 12, 13, 14, 15, 16, 17, 18, 19, 20, 21, 22, 23, 24, 25, 26, 27, 28, 29, 30, 31, 32, 33] [0, 1, 2, 3, 4, 5, 6, 7, 8, 9, 10, 11, 12, 13, 14, 15, 16, 17, 18, 19, 20, 21, 22, 23, 24, 25, 26, 27, 28, 29, 30, 31, 32, 33] (wN := (wX10 G h0 a0 f0 A0)) rfl rfl rfl rfl rfl hl.1 (Nat.le_of_ble_eq_true rfl) dX10_isTold_15 (fun H locs hPD hS => ?_)
    refine lv_if_eq (tgt := 25) hx hb dX10_isTold_18 (by decide) (fun cc1 => ?_) (fun cc1 => ?_)
    · have h := (if_pos cc1).symm.trans h
      refine lv_iconst (v := 0) hx hb dX10_isTold_25 (by decide) ?_
      subst h
      exact eZ C0 hPD.1 hPD.2 hS rfl rfl dX10_isTold_26
    · have h := (if_neg cc1).symm.trans h
      refine lv_iconst (v := 1) hx hb dX10_isTold_21 (by decide) ?_
      refine lv_goto (tgt := 26) hx hb dX10_isTold_22 (by decide) ?_
      subst h
      exact eZ C0 hPD.1 hPD.2 hS rfl rfl dX10_isTold_26
abbrev rmX10_isMan : Room := { frames := 1, cells := 0, slots := 0, locals := 22 }
set_option maxRecDepth 100000 in
set_option maxHeartbeats 4000000 in
theorem kt_X10_isMan (l : Launch) (G : Gp) (h0 : Nat) (a0 : Nat → Nat) (f0 : Nat → Int32) (A0 : Nat → Nat → Int32) (p1 : Int32) : ∀ {r : Int32}, f10_isMan f0 A0 p1 = some r → CtrI l yX10_isMan cX10_isMan 2 (some .boolean) rmX10_isMan G [.ref h0, .int p1] (wX10 G h0 a0 f0 A0) r (wX10 G h0 a0 f0 A0) := by
  intro res h
  refine ctrI_of (cc := cX10_isMan) (maxL := 2) (ret := (some .boolean)) (by decide +kernel) rfl (Nat.le_of_ble_eq_true rfl) (fun p e s m below meth c DA C0 hP hD ls hl => ?_)
  have hPD : WD G DA (wX10 G h0 a0 f0 A0) s.heap := ⟨hP, hD⟩
  have hS : va_S DA s.heap s.heap [] := va_S.rf
  have hl : lv_has ls 2 [(0, .ref h0), (1, .int p1)] := hl
  obtain ⟨hx, hb, hml, hown, hts⟩ := C0.1
  have hK := C0.2.2.2.1
  unfold f10_isMan at h
  refine lv_iload_n hx hb dX10_isMan_0 rfl (lv_at hl 1 rfl) ?_
  refine lv_iconst (v := 0) hx hb dX10_isMan_1 (by decide) ?_
  refine lv_bipush (v := 7) hx hb dX10_isMan_2 (by decide) ?_
  refine kSI (As := [.int p1, .int 0, .int 7]) (rest := []) C0 (kt_X10_in l G  p1 0 7) gi_S_X10_112_X10_in (n := 3) rfl (by decide +kernel) ⟨rfl, rfl, Nat.le_of_ble_eq_true rfl, Nat.le_of_ble_eq_true rfl⟩ hPD hS [] [0, 1, 2, 3, 4, 5, 6, 7, 8, 9, 10, 11, 12, 13, 14, 15, 16, 17, 18, 19, 20, 21, 22, 23, 24, 25, 26, 27, 28, 29, 30, 31, 32, 33] [0, 1, 2, 3, 4, 5, 6, 7, 8, 9, 10, 11, 12, 13, 14, 15, 16, 17, 18, 19, 20, 21, 22, 23, 24, 25, 26, 27, 28, 29, 30, 31, 32, 33] (wN := (wX10 G h0 a0 f0 A0)) rfl rfl rfl rfl rfl hl.1 (Nat.le_of_ble_eq_true rfl) dX10_isMan_4 (fun H locs hPD hS => ?_)
  refine lv_if_eq (tgt := 27) hx hb dX10_isMan_7 (by decide) (fun cc1 => ?_) (fun cc1 => ?_)
  · have h := (if_pos cc1).symm.trans h
    refine lv_iconst (v := 0) hx hb dX10_isMan_27 (by decide) ?_
    obtain rfl := Option.some.inj h
    exact eZ C0 hPD.1 hPD.2 hS rfl rfl dX10_isMan_28
  · have h := (if_neg cc1).symm.trans h
    refine lv_aload_n hx hb dX10_isMan_10 rfl (lv_at hl 0 rfl) ?_
    refine va_get (D := G.1) (ci := 10) (v := .ref (a0 0)) (C := RX10) (T := TX10) (N := 52) hx hb hts inlX10 hown hK hPD.1 0 rfl rfl 0 (by decide) (hts _ gw_539) (fun _ h9 => h9) rfl dX10_isMan_11 ?_
    refine lv_bipush (v := 48) hx hb dX10_isMan_14 (by decide) ?_
    refine lv_iload_n hx hb dX10_isMan_16 rfl (lv_at hl 1 rfl) ?_
    refine lv_iadd hx hb dX10_isMan_17 ?_
    obtain ⟨hi_1, h⟩ := ob h
    refine va_iald hx hb hK hPD.1 1 1 rfl rfl hi_1 dX10_isMan_18 ?_
    refine lv_iconst (v := 1) hx hb dX10_isMan_19 (by decide) ?_
    refine lv_icmp_ne (tgt := 27) hx hb dX10_isMan_20 (by decide) (fun cc1 => ?_) (fun cc1 => ?_)
    · have h := (if_neg cc1).symm.trans h
      refine lv_iconst (v := 0) hx hb dX10_isMan_27 (by decide) ?_
      obtain rfl := Option.some.inj h
      exact eZ C0 hPD.1 hPD.2 hS rfl rfl dX10_isMan_28
    · have h := (if_pos cc1).symm.trans h
      refine lv_iconst (v := 1) hx hb dX10_isMan_23 (by decide) ?_
      refine lv_goto (tgt := 28) hx hb dX10_isMan_24 (by decide) ?_
      obtain rfl := Option.some.inj h
      exact eZ C0 hPD.1 hPD.2 hS rfl rfl dX10_isMan_28
abbrev rmX10_menAt : Room := { frames := 2, cells := 0, slots := 0, locals := 43 }
set_option maxRecDepth 100000 in
set_option maxHeartbeats 4000000 in
theorem ww_f10_menAt_b4  (C0 : Cx cX10_menAt 4 (some .int) RX10 p s m args meth c G DA) {h0 : Nat} {a0 : Nat → Nat} {f0 : Nat → Int32} {A0 : Nat → Nat → Int32} {p1 : Int32}  {k4 : Int32 → Int32 → Option (Int32)} {res : Int32}  (hk4 : ∀ (l2 : Int32) (l3 : Int32), k4 l2 l3 = some res → ∀ (H : Heap) (locs : List Loc) (ls : Array Slot), WD G DA (wX10 G h0 a0 f0 A0) H → va_S DA s.heap H locs → lv_has ls 4 [(0, .ref h0), (1, .int p1), (2, .int l2), (3, .int l3)] → W p l e rmX10_menAt s m args below meth c H locs 0 0 (MQ below (QI G DA res (wX10 G h0 a0 f0 A0)) args s 0 0 DA) (F0 m 4 ls [])) : ∀ (l2 : Int32) (l3 : Int32), f10_menAt_b4 f0 A0 p1  k4 l2 l3 = some res → ∀ (H : Heap) (locs : List Loc) (ls : Array Slot), WD G DA (wX10 G h0 a0 f0 A0) H → va_S DA s.heap H locs → lv_has ls 4 [(0, .ref h0), (1, .int p1), (2, .int l2), (3, .int l3)] → W p l e rmX10_menAt s m args below meth c H locs 0 0 (MQ below (QI G DA res (wX10 G h0 a0 f0 A0)) args s 0 0 DA) (F0 m 4 ls []) := by
  obtain ⟨hx, hb, hml, hown, hts⟩ := C0.1
  have hK := C0.2.2.2.1
  intro l2 l3 h _ _ _ hPD hS hl
  unfold f10_menAt_b4 at h
  refine lv_iload_n hx hb dX10_menAt_4 rfl (lv_at hl 3 rfl) ?_
  refine lv_bipush (v := 8) hx hb dX10_menAt_5 (by decide) ?_
  refine lv_icmp_ge (tgt := 43) hx hb dX10_menAt_7 (by decide) (fun cc1 => ?_) (fun cc1 => ?_)
  · have h := (if_pos cc1).symm.trans h
    refine lv_iload_n hx hb dX10_menAt_43 rfl (lv_at hl 2 rfl) ?_
    obtain rfl := Option.some.inj h
    exact eI C0 hPD.1 hPD.2 hS rfl dX10_menAt_44
  · have h := (if_neg cc1).symm.trans h
    refine lv_aload_n hx hb dX10_menAt_10 rfl (lv_at hl 0 rfl) ?_
    refine lv_iload_n hx hb dX10_menAt_11 rfl (lv_at hl 3 rfl) ?_
    obtain ⟨q_1, hq_1, h⟩ := ob2 h
    refine kVI (As := [.int l3]) (rest := []) C0 (kt_X10_isMan l G h0 a0 f0 A0 l3 hq_1) gi_V_X10_124_X10_isMan (n := 1) rfl (by decide +kernel) rfl ⟨rfl, rfl, Nat.le_of_ble_eq_true rfl, Nat.le_of_ble_eq_true rfl⟩ hPD hS 0 10 rfl rfl rfl [0, 1, 2, 3, 4, 5, 6, 7, 8, 9, 10, 11, 12, 13, 14, 15, 16, 17, 18, 19, 20, 21, 22, 23, 24, 25, 26, 27, 28, 29, 30, 31, 32, 33] [] [0, 1, 2, 3, 4, 5, 6, 7, 8, 9, 10, 11, 12, 13, 14, 15, 16, 17, 18, 19, 20, 21, 22, 23, 24, 25, 26, 27, 28, 29, 30, 31, 32, 33] (wN := (wX10 G h0 a0 f0 A0)) rfl rfl rfl rfl rfl hl.1 (Nat.le_of_ble_eq_true rfl) dX10_menAt_12 (fun H locs hPD hS => ?_)
    refine lv_if_eq (tgt := 37) hx hb dX10_menAt_15 (by decide) (fun cc1 => ?_) (fun cc1 => ?_)
    · have h := (if_pos cc1).symm.trans h
      refine lv_iinc (v := l3 + 1) (lv' := [(3, .int (l3 + 1)), (0, .ref h0), (1, .int p1), (2, .int l2)]) hx hb dX10_menAt_37 hl (k := 3) rfl rfl (by decide) rfl (fun ls hl => ?_)
      refine lv_goto (tgt := 4) hx hb dX10_menAt_40 (by decide) ?_
      exact hk4 l2 (l3 + 1) h _ _ _ hPD hS (lv_sub hl [1, 2, 3, 0] rfl)
    · have h := (if_neg cc1).symm.trans h
      refine lv_aload_n hx hb dX10_menAt_18 rfl (lv_at hl 0 rfl) ?_
      refine va_get (D := G.1) (ci := 10) (v := .ref (a0 0)) (C := RX10) (T := TX10) (N := 52) hx hb hts inlX10 hown hK hPD.1 0 rfl rfl 0 (by decide) (hts _ gw_539) (fun _ h9 => h9) rfl dX10_menAt_19 ?_
      refine lv_bipush (v := 56) hx hb dX10_menAt_22 (by decide) ?_
      refine lv_iload_n hx hb dX10_menAt_24 rfl (lv_at hl 3 rfl) ?_
      refine lv_iadd hx hb dX10_menAt_25 ?_
      obtain ⟨hi_2, h⟩ := ob h
      refine va_iald hx hb hK hPD.1 1 1 rfl rfl hi_2 dX10_menAt_26 ?_
      refine lv_iload_n hx hb dX10_menAt_27 rfl (lv_at hl 1 rfl) ?_
      refine lv_icmp_ne (tgt := 37) hx hb dX10_menAt_28 (by decide) (fun cc1 => ?_) (fun cc1 => ?_)
      · have h := (if_neg cc1).symm.trans h
        refine lv_iinc (v := l3 + 1) (lv' := [(3, .int (l3 + 1)), (0, .ref h0), (1, .int p1), (2, .int l2)]) hx hb dX10_menAt_37 hl (k := 3) rfl rfl (by decide) rfl (fun ls hl => ?_)
        refine lv_goto (tgt := 4) hx hb dX10_menAt_40 (by decide) ?_
        exact hk4 l2 (l3 + 1) h _ _ _ hPD hS (lv_sub hl [1, 2, 3, 0] rfl)
      · have h := (if_pos cc1).symm.trans h
        refine lv_iload_n hx hb dX10_menAt_31 rfl (lv_at hl 2 rfl) ?_
        refine lv_iconst (v := 1) hx hb dX10_menAt_32 (by decide) ?_
        refine lv_iload_n hx hb dX10_menAt_33 rfl (lv_at hl 3 rfl) ?_
        refine lv_ishl hx hb dX10_menAt_34 ?_
        refine lv_ior hx hb dX10_menAt_35 ?_
        refine lv_istore_n (lv' := [(2, .int (l2 ||| (shl 1 l3))), (0, .ref h0), (1, .int p1), (3, .int l3)]) hx hb dX10_menAt_36 rfl hl (by decide) rfl (fun ls hl => ?_)
        refine lv_iinc (v := l3 + 1) (lv' := [(3, .int (l3 + 1)), (2, .int (l2 ||| (shl 1 l3))), (0, .ref h0), (1, .int p1)]) hx hb dX10_menAt_37 hl (k := 3) rfl rfl (by decide) rfl (fun ls hl => ?_)
        refine lv_goto (tgt := 4) hx hb dX10_menAt_40 (by decide) ?_
        exact hk4 (l2 ||| (shl 1 l3)) (l3 + 1) h _ _ _ hPD hS (lv_sub hl [2, 3, 1, 0] rfl)
set_option maxRecDepth 100000 in
set_option maxHeartbeats 4000000 in
theorem ww_f10_menAt_l4  (C0 : Cx cX10_menAt 4 (some .int) RX10 p s m args meth c G DA) {h0 : Nat} {a0 : Nat → Nat} {f0 : Nat → Int32} {A0 : Nat → Nat → Int32} {p1 : Int32}   {res : Int32}  : ∀ (n : Nat) (l2 : Int32) (l3 : Int32), f10_menAt_l4 f0 A0 p1  n l2 l3 = some res → ∀ (H : Heap) (locs : List Loc) (ls : Array Slot), WD G DA (wX10 G h0 a0 f0 A0) H → va_S DA s.heap H locs → lv_has ls 4 [(0, .ref h0), (1, .int p1), (2, .int l2), (3, .int l3)] → W p l e rmX10_menAt s m args below meth c H locs 0 0 (MQ below (QI G DA res (wX10 G h0 a0 f0 A0)) args s 0 0 DA) (F0 m 4 ls []) := by
  intro n
  induction n with
  | zero => intro l2 l3 h; cases h
  | succ n ih => intro l2 l3 h; exact ww_f10_menAt_b4 C0  ih l2 l3 h
set_option maxRecDepth 100000 in
set_option maxHeartbeats 4000000 in
theorem kt_X10_menAt (l : Launch) (G : Gp) (h0 : Nat) (a0 : Nat → Nat) (f0 : Nat → Int32) (A0 : Nat → Nat → Int32) (p1 : Int32) : ∀ {r : Int32}, f10_menAt f0 A0 p1 = some r → CtrI l yX10_menAt cX10_menAt 4 (some .int) rmX10_menAt G [.ref h0, .int p1] (wX10 G h0 a0 f0 A0) r (wX10 G h0 a0 f0 A0) := by
  intro res h
  refine ctrI_of (cc := cX10_menAt) (maxL := 4) (ret := (some .int)) (by decide +kernel) rfl (Nat.le_of_ble_eq_true rfl) (fun p e s m below meth c DA C0 hP hD ls hl => ?_)
  have hPD : WD G DA (wX10 G h0 a0 f0 A0) s.heap := ⟨hP, hD⟩
  have hS : va_S DA s.heap s.heap [] := va_S.rf
  have hl : lv_has ls 4 [(0, .ref h0), (1, .int p1)] := hl
  obtain ⟨hx, hb, hml, hown, hts⟩ := C0.1
  have hK := C0.2.2.2.1
  unfold f10_menAt at h
  refine lv_iconst (v := 0) hx hb dX10_menAt_0 (by decide) ?_
  refine lv_istore_n (lv' := [(2, .int 0), (0, .ref h0), (1, .int p1)]) hx hb dX10_menAt_1 rfl hl (by decide) rfl (fun ls hl => ?_)
  refine lv_iconst (v := 0) hx hb dX10_menAt_2 (by decide) ?_
  refine lv_istore_n (lv' := [(3, .int 0), (2, .int 0), (0, .ref h0), (1, .int p1)]) hx hb dX10_menAt_3 rfl hl (by decide) rfl (fun ls hl => ?_)
  exact ww_f10_menAt_l4 C0 NF 0 0 h _ _ _ hPD hS (lv_sub hl [2, 3, 1, 0] rfl)
abbrev rmX10_guarded : Room := { frames := 2, cells := 0, slots := 0, locals := 43 }
set_option maxRecDepth 100000 in
set_option maxHeartbeats 4000000 in
theorem ww_f10_guarded_b4  (C0 : Cx cX10_guarded 3 (some .int) RX10 p s m args meth c G DA) {h0 : Nat} {a0 : Nat → Nat} {f0 : Nat → Int32} {A0 : Nat → Nat → Int32}  {k4 : Int32 → Int32 → Option (Int32)} {res : Int32}  (hk4 : ∀ (l1 : Int32) (l2 : Int32), k4 l1 l2 = some res → ∀ (H : Heap) (locs : List Loc) (ls : Array Slot), WD G DA (wX10 G h0 a0 f0 A0) H → va_S DA s.heap H locs → lv_has ls 3 [(0, .ref h0), (1, .int l1), (2, .int l2)] → W p l e rmX10_guarded s m args below meth c H locs 0 0 (MQ below (QI G DA res (wX10 G h0 a0 f0 A0)) args s 0 0 DA) (F0 m 4 ls [])) : ∀ (l1 : Int32) (l2 : Int32), f10_guarded_b4 f0 A0  k4 l1 l2 = some res → ∀ (H : Heap) (locs : List Loc) (ls : Array Slot), WD G DA (wX10 G h0 a0 f0 A0) H → va_S DA s.heap H locs → lv_has ls 3 [(0, .ref h0), (1, .int l1), (2, .int l2)] → W p l e rmX10_guarded s m args below meth c H locs 0 0 (MQ below (QI G DA res (wX10 G h0 a0 f0 A0)) args s 0 0 DA) (F0 m 4 ls []) := by
  obtain ⟨hx, hb, hml, hown, hts⟩ := C0.1
  have hK := C0.2.2.2.1
  intro l1 l2 h _ _ _ hPD hS hl
  unfold f10_guarded_b4 at h
  refine lv_iload_n hx hb dX10_guarded_4 rfl (lv_at hl 2 rfl) ?_
  refine lv_bipush (v := 8) hx hb dX10_guarded_5 (by decide) ?_
  refine lv_icmp_ge (tgt := 38) hx hb dX10_guarded_7 (by decide) (fun cc1 => ?_) (fun cc1 => ?_)
  · have h := (if_pos cc1).symm.trans h
    refine lv_iload_n hx hb dX10_guarded_38 rfl (lv_at hl 1 rfl) ?_
    obtain rfl := Option.some.inj h
    exact eI C0 hPD.1 hPD.2 hS rfl dX10_guarded_39
  · have h := (if_neg cc1).symm.trans h
    refine lv_aload_n hx hb dX10_guarded_10 rfl (lv_at hl 0 rfl) ?_
    refine lv_iload_n hx hb dX10_guarded_11 rfl (lv_at hl 2 rfl) ?_
    obtain ⟨q_1, hq_1, h⟩ := ob2 h
    refine kVI (As := [.int l2]) (rest := []) C0 (kt_X10_isMan l G h0 a0 f0 A0 l2 hq_1) gi_V_X10_124_X10_isMan (n := 1) rfl (by decide +kernel) rfl ⟨rfl, rfl, Nat.le_of_ble_eq_true rfl, Nat.le_of_ble_eq_true rfl⟩ hPD hS 0 10 rfl rfl rfl [0, 1, 2, 3, 4, 5, 6, 7, 8, 9, 10, 11, 12, 13, 14, 15, 16, 17, 18, 19, 20, 21, 22, 23, 24, 25, 26, 27, 28, 29, 30, 31, 32, 33] [] [0, 1, 2, 3, 4, 5, 6, 7, 8, 9, 10, 11, 12, 13, 14, 15, 16, 17, 18, 19, 20, 21, 22, 23, 24, 25, 26, 27, 28, 29, 30, 31, 32, 33] (wN := (wX10 G h0 a0 f0 A0)) rfl rfl rfl rfl rfl hl.1 (Nat.le_of_ble_eq_true rfl) dX10_guarded_12 (fun H locs hPD hS => ?_)
    refine lv_if_eq (tgt := 32) hx hb dX10_guarded_15 (by decide) (fun cc1 => ?_) (fun cc1 => ?_)
    · have h := (if_pos cc1).symm.trans h
      refine lv_iinc (v := l2 + 1) (lv' := [(2, .int (l2 + 1)), (0, .ref h0), (1, .int l1)]) hx hb dX10_guarded_32 hl (k := 2) rfl rfl (by decide) rfl (fun ls hl => ?_)
      refine lv_goto (tgt := 4) hx hb dX10_guarded_35 (by decide) ?_
      exact hk4 l1 (l2 + 1) h _ _ _ hPD hS (lv_sub hl [1, 2, 0] rfl)
    · have h := (if_neg cc1).symm.trans h
      refine lv_iload_n hx hb dX10_guarded_18 rfl (lv_at hl 1 rfl) ?_
      refine lv_iconst (v := 1) hx hb dX10_guarded_19 (by decide) ?_
      refine lv_aload_n hx hb dX10_guarded_20 rfl (lv_at hl 0 rfl) ?_
      refine va_get (D := G.1) (ci := 10) (v := .ref (a0 0)) (C := RX10) (T := TX10) (N := 52) hx hb hts inlX10 hown hK hPD.1 0 rfl rfl 0 (by decide) (hts _ gw_539) (fun _ h9 => h9) rfl dX10_guarded_21 ?_
      refine lv_bipush (v := 56) hx hb dX10_guarded_24 (by decide) ?_
      refine lv_iload_n hx hb dX10_guarded_26 rfl (lv_at hl 2 rfl) ?_
      refine lv_iadd hx hb dX10_guarded_27 ?_
      obtain ⟨hi_2, h⟩ := ob h
      refine va_iald hx hb hK hPD.1 1 1 rfl rfl hi_2 dX10_guarded_28 ?_
      refine lv_ishl hx hb dX10_guarded_29 ?_
      refine lv_ior hx hb dX10_guarded_30 ?_
      refine lv_istore_n (lv' := [(1, .int (l1 ||| (shl 1 (gx (A0 0) (56 + l2))))), (0, .ref h0), (2, .int l2)]) hx hb dX10_guarded_31 rfl hl (by decide) rfl (fun ls hl => ?_)
      refine lv_iinc (v := l2 + 1) (lv' := [(2, .int (l2 + 1)), (1, .int (l1 ||| (shl 1 (gx (A0 0) (56 + l2))))), (0, .ref h0)]) hx hb dX10_guarded_32 hl (k := 2) rfl rfl (by decide) rfl (fun ls hl => ?_)
      refine lv_goto (tgt := 4) hx hb dX10_guarded_35 (by decide) ?_
      exact hk4 (l1 ||| (shl 1 (gx (A0 0) (56 + l2)))) (l2 + 1) h _ _ _ hPD hS (lv_sub hl [2, 1, 0] rfl)
set_option maxRecDepth 100000 in
set_option maxHeartbeats 4000000 in
theorem ww_f10_guarded_l4  (C0 : Cx cX10_guarded 3 (some .int) RX10 p s m args meth c G DA) {h0 : Nat} {a0 : Nat → Nat} {f0 : Nat → Int32} {A0 : Nat → Nat → Int32}   {res : Int32}  : ∀ (n : Nat) (l1 : Int32) (l2 : Int32), f10_guarded_l4 f0 A0  n l1 l2 = some res → ∀ (H : Heap) (locs : List Loc) (ls : Array Slot), WD G DA (wX10 G h0 a0 f0 A0) H → va_S DA s.heap H locs → lv_has ls 3 [(0, .ref h0), (1, .int l1), (2, .int l2)] → W p l e rmX10_guarded s m args below meth c H locs 0 0 (MQ below (QI G DA res (wX10 G h0 a0 f0 A0)) args s 0 0 DA) (F0 m 4 ls []) := by
  intro n
  induction n with
  | zero => intro l1 l2 h; cases h
  | succ n ih => intro l1 l2 h; exact ww_f10_guarded_b4 C0  ih l1 l2 h
set_option maxRecDepth 100000 in
set_option maxHeartbeats 4000000 in
theorem kt_X10_guarded (l : Launch) (G : Gp) (h0 : Nat) (a0 : Nat → Nat) (f0 : Nat → Int32) (A0 : Nat → Nat → Int32) : ∀ {r : Int32}, f10_guarded f0 A0 = some r → CtrI l yX10_guarded cX10_guarded 3 (some .int) rmX10_guarded G [.ref h0] (wX10 G h0 a0 f0 A0) r (wX10 G h0 a0 f0 A0) := by
  intro res h
  refine ctrI_of (cc := cX10_guarded) (maxL := 3) (ret := (some .int)) (by decide +kernel) rfl (Nat.le_of_ble_eq_true rfl) (fun p e s m below meth c DA C0 hP hD ls hl => ?_)
  have hPD : WD G DA (wX10 G h0 a0 f0 A0) s.heap := ⟨hP, hD⟩
  have hS : va_S DA s.heap s.heap [] := va_S.rf
  have hl : lv_has ls 3 [(0, .ref h0)] := hl
  obtain ⟨hx, hb, hml, hown, hts⟩ := C0.1
  have hK := C0.2.2.2.1
  unfold f10_guarded at h
  refine lv_iconst (v := 0) hx hb dX10_guarded_0 (by decide) ?_
  refine lv_istore_n (lv' := [(1, .int 0), (0, .ref h0)]) hx hb dX10_guarded_1 rfl hl (by decide) rfl (fun ls hl => ?_)
  refine lv_iconst (v := 0) hx hb dX10_guarded_2 (by decide) ?_
  refine lv_istore_n (lv' := [(2, .int 0), (1, .int 0), (0, .ref h0)]) hx hb dX10_guarded_3 rfl hl (by decide) rfl (fun ls hl => ?_)
  exact ww_f10_guarded_l4 C0 NF 0 0 h _ _ _ hPD hS (lv_sub hl [2, 1, 0] rfl)
abbrev rmX10_place : Room := { frames := 1, cells := 0, slots := 0, locals := 22 }
set_option maxRecDepth 100000 in
set_option maxHeartbeats 4000000 in
theorem kt_X10_place (l : Launch) (G : Gp) (h0 : Nat) (a0 : Nat → Nat) (f0 : Nat → Int32) (A0 : Nat → Nat → Int32) (p1 : Int32) (p2 : Int32) (p3 : Int32) : ∀ {r : Int32 × (Nat → Nat → Int32) × (Nat → Int32)}, f10_place f0 A0 p1 p2 p3 = some r → CtrI l yX10_place cX10_place 4 (some .boolean) rmX10_place G [.ref h0, .int p1, .int p2, .int p3] (wX10 G h0 a0 f0 A0) r.1 (wX10 G h0 a0 r.2.2 r.2.1) := by
  intro res h
  refine ctrI_of (cc := cX10_place) (maxL := 4) (ret := (some .boolean)) (by decide +kernel) rfl (Nat.le_of_ble_eq_true rfl) (fun p e s m below meth c DA C0 hP hD ls hl => ?_)
  have hPD : WD G DA (wX10 G h0 a0 f0 A0) s.heap := ⟨hP, hD⟩
  have hS : va_S DA s.heap s.heap [] := va_S.rf
  have hl : lv_has ls 4 [(0, .ref h0), (1, .int p1), (2, .int p2), (3, .int p3)] := hl
  obtain ⟨hx, hb, hml, hown, hts⟩ := C0.1
  have hK := C0.2.2.2.1
  unfold f10_place at h
  refine lv_iload_n hx hb dX10_place_0 rfl (lv_at hl 1 rfl) ?_
  refine lv_iconst (v := 0) hx hb dX10_place_1 (by decide) ?_
  refine lv_bipush (v := 15) hx hb dX10_place_2 (by decide) ?_
  refine kSI (As := [.int p1, .int 0, .int 15]) (rest := []) C0 (kt_X10_in l G  p1 0 15) gi_S_X10_112_X10_in (n := 3) rfl (by decide +kernel) ⟨rfl, rfl, Nat.le_of_ble_eq_true rfl, Nat.le_of_ble_eq_true rfl⟩ hPD hS [] [0, 1, 2, 3, 4, 5, 6, 7, 8, 9, 10, 11, 12, 13, 14, 15, 16, 17, 18, 19, 20, 21, 22, 23, 24, 25, 26, 27, 28, 29, 30, 31, 32, 33] [0, 1, 2, 3, 4, 5, 6, 7, 8, 9, 10, 11, 12, 13, 14, 15, 16, 17, 18, 19, 20, 21, 22, 23, 24, 25, 26, 27, 28, 29, 30, 31, 32, 33] (wN := (wX10 G h0 a0 f0 A0)) rfl rfl rfl rfl rfl hl.1 (Nat.le_of_ble_eq_true rfl) dX10_place_4 (fun H locs hPD hS => ?_)
  refine lv_if_eq (tgt := 31) hx hb dX10_place_7 (by decide) (fun cc1 => ?_) (fun cc1 => ?_)
  · have h := (if_pos cc1).symm.trans h
    refine lv_iconst (v := 0) hx hb dX10_place_31 (by decide) ?_
    obtain rfl := Option.some.inj h
    exact eZ C0 hPD.1 hPD.2 hS rfl rfl dX10_place_32
  · have h := (if_neg cc1).symm.trans h
    refine lv_iload_n hx hb dX10_place_10 rfl (lv_at hl 2 rfl) ?_
    refine lv_iconst (v := 0) hx hb dX10_place_11 (by decide) ?_
    refine lv_bipush (v := 99) hx hb dX10_place_12 (by decide) ?_
    refine kSI (As := [.int p2, .int 0, .int 99]) (rest := []) C0 (kt_X10_in l G  p2 0 99) gi_S_X10_112_X10_in (n := 3) rfl (by decide +kernel) ⟨rfl, rfl, Nat.le_of_ble_eq_true rfl, Nat.le_of_ble_eq_true rfl⟩ hPD hS [] [0, 1, 2, 3, 4, 5, 6, 7, 8, 9, 10, 11, 12, 13, 14, 15, 16, 17, 18, 19, 20, 21, 22, 23, 24, 25, 26, 27, 28, 29, 30, 31, 32, 33] [0, 1, 2, 3, 4, 5, 6, 7, 8, 9, 10, 11, 12, 13, 14, 15, 16, 17, 18, 19, 20, 21, 22, 23, 24, 25, 26, 27, 28, 29, 30, 31, 32, 33] (wN := (wX10 G h0 a0 f0 A0)) rfl rfl rfl rfl rfl hl.1 (Nat.le_of_ble_eq_true rfl) dX10_place_14 (fun H locs hPD hS => ?_)
    refine lv_if_eq (tgt := 31) hx hb dX10_place_17 (by decide) (fun cc1 => ?_) (fun cc1 => ?_)
    · have h := (if_pos cc1).symm.trans h
      refine lv_iconst (v := 0) hx hb dX10_place_31 (by decide) ?_
      obtain rfl := Option.some.inj h
      exact eZ C0 hPD.1 hPD.2 hS rfl rfl dX10_place_32
    · have h := (if_neg cc1).symm.trans h
      refine lv_iload_n hx hb dX10_place_20 rfl (lv_at hl 3 rfl) ?_
      refine lv_iconst (v := 0) hx hb dX10_place_21 (by decide) ?_
      refine lv_sipush (v := 999) hx hb dX10_place_22 (by decide) ?_
      refine kSI (As := [.int p3, .int 0, .int 999]) (rest := []) C0 (kt_X10_in l G  p3 0 999) gi_S_X10_112_X10_in (n := 3) rfl (by decide +kernel) ⟨rfl, rfl, Nat.le_of_ble_eq_true rfl, Nat.le_of_ble_eq_true rfl⟩ hPD hS [] [0, 1, 2, 3, 4, 5, 6, 7, 8, 9, 10, 11, 12, 13, 14, 15, 16, 17, 18, 19, 20, 21, 22, 23, 24, 25, 26, 27, 28, 29, 30, 31, 32, 33] [0, 1, 2, 3, 4, 5, 6, 7, 8, 9, 10, 11, 12, 13, 14, 15, 16, 17, 18, 19, 20, 21, 22, 23, 24, 25, 26, 27, 28, 29, 30, 31, 32, 33] (wN := (wX10 G h0 a0 f0 A0)) rfl rfl rfl rfl rfl hl.1 (Nat.le_of_ble_eq_true rfl) dX10_place_25 (fun H locs hPD hS => ?_)
      refine lv_if_ne (tgt := 33) hx hb dX10_place_28 (by decide) (fun cc1 => ?_) (fun cc1 => ?_)
      · have h := (if_neg cc1).symm.trans h
        refine lv_aload_n hx hb dX10_place_33 rfl (lv_at hl 0 rfl) ?_
        refine lv_aload_n hx hb dX10_place_34 rfl (lv_at hl 0 rfl) ?_
        refine va_get (D := G.1) (ci := 10) (v := .int (f0 6)) (C := RX10) (T := TX10) (N := 52) hx hb hts inlX10 hown hK hPD.1 0 rfl rfl 6 (by decide) (hts _ gw_535) (fun _ h9 => h9) rfl dX10_place_35 ?_
        refine lv_iconst (v := 1) hx hb dX10_place_38 (by decide) ?_
        refine lv_iload_n hx hb dX10_place_39 rfl (lv_at hl 1 rfl) ?_
        refine lv_ishl hx hb dX10_place_40 ?_
        refine lv_ior hx hb dX10_place_41 ?_
        refine va_put (D := G.1) (ci := 10) (v := .int ((f0 6) ||| (shl 1 p1))) (ty := .int) (C := RX10) (T := TX10) (N := 52) hx hb hts inlX10 tyX10 tyX10_ok nmX10 hown hK hPD.1 hPD.2 hS 0 rfl rfl 6 (by decide) (hts _ gw_535) (fun _ h9 => h9) rfl (by decide +kernel) rfl rfl (Nat.le_of_ble_eq_true rfl) dX10_place_42 (fun H locs hP hD hS => ?_)
        obtain ⟨f0_1, ef0_1, h⟩ := lvl h
        have hPD : WD G DA (wX10 G h0 a0 f0_1 A0) H := by rw [ef0_1]; exact ⟨hP, hD⟩
        clear ef0_1 hP hD
        refine lv_aload_n hx hb dX10_place_45 rfl (lv_at hl 0 rfl) ?_
        refine va_get (D := G.1) (ci := 10) (v := .ref (a0 0)) (C := RX10) (T := TX10) (N := 52) hx hb hts inlX10 hown hK hPD.1 0 rfl rfl 0 (by decide) (hts _ gw_539) (fun _ h9 => h9) rfl dX10_place_46 ?_
        refine lv_iconst (v := 0) hx hb dX10_place_49 (by decide) ?_
        refine lv_iload_n hx hb dX10_place_50 rfl (lv_at hl 1 rfl) ?_
        refine lv_iadd hx hb dX10_place_51 ?_
        refine lv_iload_n hx hb dX10_place_52 rfl (lv_at hl 2 rfl) ?_
        obtain ⟨hi_2, h⟩ := ob h
        refine va_iast hx hb hK hPD.1 hPD.2 hS 1 1 rfl rfl hi_2 dX10_place_53 (fun H locs hP hD hS => ?_)
        obtain ⟨A0_3, eA0_3, h⟩ := lvl h
        have hPD : WD G DA (wX10 G h0 a0 f0_1 A0_3) H := by rw [eA0_3]; exact ⟨hP, hD⟩
        clear eA0_3 hP hD
        refine lv_aload_n hx hb dX10_place_54 rfl (lv_at hl 0 rfl) ?_
        refine va_get (D := G.1) (ci := 10) (v := .ref (a0 0)) (C := RX10) (T := TX10) (N := 52) hx hb hts inlX10 hown hK hPD.1 0 rfl rfl 0 (by decide) (hts _ gw_539) (fun _ h9 => h9) rfl dX10_place_55 ?_
        refine lv_bipush (v := 16) hx hb dX10_place_58 (by decide) ?_
        refine lv_iload_n hx hb dX10_place_60 rfl (lv_at hl 1 rfl) ?_
        refine lv_iadd hx hb dX10_place_61 ?_
        refine lv_iload_n hx hb dX10_place_62 rfl (lv_at hl 3 rfl) ?_
        obtain ⟨hi_4, h⟩ := ob h
        refine va_iast hx hb hK hPD.1 hPD.2 hS 1 1 rfl rfl hi_4 dX10_place_63 (fun H locs hP hD hS => ?_)
        obtain ⟨A0_5, eA0_5, h⟩ := lvl h
        have hPD : WD G DA (wX10 G h0 a0 f0_1 A0_5) H := by rw [eA0_5]; exact ⟨hP, hD⟩
        clear eA0_5 hP hD
        refine lv_iconst (v := 1) hx hb dX10_place_64 (by decide) ?_
        obtain rfl := Option.some.inj h
        exact eZ C0 hPD.1 hPD.2 hS rfl rfl dX10_place_65
      · have h := (if_pos cc1).symm.trans h
        refine lv_iconst (v := 0) hx hb dX10_place_31 (by decide) ?_
        obtain rfl := Option.some.inj h
        exact eZ C0 hPD.1 hPD.2 hS rfl rfl dX10_place_32
abbrev rmX10_constable : Room := { frames := 2, cells := 0, slots := 0, locals := 43 }
set_option maxRecDepth 100000 in
set_option maxHeartbeats 4000000 in
theorem kt_X10_constable (l : Launch) (G : Gp) (h0 : Nat) (a0 : Nat → Nat) (f0 : Nat → Int32) (A0 : Nat → Nat → Int32) (p1 : Int32) (p2 : Int32) : ∀ {r : Int32 × (Nat → Nat → Int32)}, f10_constable f0 A0 p1 p2 = some r → CtrI l yX10_constable cX10_constable 3 (some .boolean) rmX10_constable G [.ref h0, .int p1, .int p2] (wX10 G h0 a0 f0 A0) r.1 (wX10 G h0 a0 f0 r.2) := by
  intro res h
  refine ctrI_of (cc := cX10_constable) (maxL := 3) (ret := (some .boolean)) (by decide +kernel) rfl (Nat.le_of_ble_eq_true rfl) (fun p e s m below meth c DA C0 hP hD ls hl => ?_)
  have hPD : WD G DA (wX10 G h0 a0 f0 A0) s.heap := ⟨hP, hD⟩
  have hS : va_S DA s.heap s.heap [] := va_S.rf
  have hl : lv_has ls 3 [(0, .ref h0), (1, .int p1), (2, .int p2)] := hl
  obtain ⟨hx, hb, hml, hown, hts⟩ := C0.1
  have hK := C0.2.2.2.1
  unfold f10_constable at h
  refine lv_iload_n hx hb dX10_constable_0 rfl (lv_at hl 1 rfl) ?_
  refine lv_iconst (v := 0) hx hb dX10_constable_1 (by decide) ?_
  refine lv_bipush (v := 7) hx hb dX10_constable_2 (by decide) ?_
  refine kSI (As := [.int p1, .int 0, .int 7]) (rest := []) C0 (kt_X10_in l G  p1 0 7) gi_S_X10_112_X10_in (n := 3) rfl (by decide +kernel) ⟨rfl, rfl, Nat.le_of_ble_eq_true rfl, Nat.le_of_ble_eq_true rfl⟩ hPD hS [] [0, 1, 2, 3, 4, 5, 6, 7, 8, 9, 10, 11, 12, 13, 14, 15, 16, 17, 18, 19, 20, 21, 22, 23, 24, 25, 26, 27, 28, 29, 30, 31, 32, 33] [0, 1, 2, 3, 4, 5, 6, 7, 8, 9, 10, 11, 12, 13, 14, 15, 16, 17, 18, 19, 20, 21, 22, 23, 24, 25, 26, 27, 28, 29, 30, 31, 32, 33] (wN := (wX10 G h0 a0 f0 A0)) rfl rfl rfl rfl rfl hl.1 (Nat.le_of_ble_eq_true rfl) dX10_constable_4 (fun H locs hPD hS => ?_)
  refine lv_if_eq (tgt := 18) hx hb dX10_constable_7 (by decide) (fun cc1 => ?_) (fun cc1 => ?_)
  · have h := (if_pos cc1).symm.trans h
    refine lv_iconst (v := 0) hx hb dX10_constable_18 (by decide) ?_
    obtain rfl := Option.some.inj h
    exact eZ C0 hPD.1 hPD.2 hS rfl rfl dX10_constable_19
  · have h := (if_neg cc1).symm.trans h
    refine lv_aload_n hx hb dX10_constable_10 rfl (lv_at hl 0 rfl) ?_
    refine lv_iload_n hx hb dX10_constable_11 rfl (lv_at hl 2 rfl) ?_
    refine kVI (As := [.int p2]) (rest := []) C0 (kt_X10_isTold l G h0 a0 f0 A0 p2) gi_V_X10_128_X10_isTold (n := 1) rfl (by decide +kernel) rfl ⟨rfl, rfl, Nat.le_of_ble_eq_true rfl, Nat.le_of_ble_eq_true rfl⟩ hPD hS 0 10 rfl rfl rfl [0, 1, 2, 3, 4, 5, 6, 7, 8, 9, 10, 11, 12, 13, 14, 15, 16, 17, 18, 19, 20, 21, 22, 23, 24, 25, 26, 27, 28, 29, 30, 31, 32, 33] [] [0, 1, 2, 3, 4, 5, 6, 7, 8, 9, 10, 11, 12, 13, 14, 15, 16, 17, 18, 19, 20, 21, 22, 23, 24, 25, 26, 27, 28, 29, 30, 31, 32, 33] (wN := (wX10 G h0 a0 f0 A0)) rfl rfl rfl rfl rfl hl.1 (Nat.le_of_ble_eq_true rfl) dX10_constable_12 (fun H locs hPD hS => ?_)
    refine lv_if_ne (tgt := 20) hx hb dX10_constable_15 (by decide) (fun cc1 => ?_) (fun cc1 => ?_)
    · have h := (if_neg cc1).symm.trans h
      refine lv_aload_n hx hb dX10_constable_20 rfl (lv_at hl 0 rfl) ?_
      refine va_get (D := G.1) (ci := 10) (v := .ref (a0 0)) (C := RX10) (T := TX10) (N := 52) hx hb hts inlX10 hown hK hPD.1 0 rfl rfl 0 (by decide) (hts _ gw_539) (fun _ h9 => h9) rfl dX10_constable_21 ?_
      refine lv_bipush (v := 48) hx hb dX10_constable_24 (by decide) ?_
      refine lv_iload_n hx hb dX10_constable_26 rfl (lv_at hl 1 rfl) ?_
      refine lv_iadd hx hb dX10_constable_27 ?_
      refine lv_iconst (v := 1) hx hb dX10_constable_28 (by decide) ?_
      obtain ⟨hi_1, h⟩ := ob h
      refine va_iast hx hb hK hPD.1 hPD.2 hS 1 1 rfl rfl hi_1 dX10_constable_29 (fun H locs hP hD hS => ?_)
      obtain ⟨A0_2, eA0_2, h⟩ := lvl h
      have hPD : WD G DA (wX10 G h0 a0 f0 A0_2) H := by rw [eA0_2]; exact ⟨hP, hD⟩
      clear eA0_2 hP hD
      refine lv_aload_n hx hb dX10_constable_30 rfl (lv_at hl 0 rfl) ?_
      refine va_get (D := G.1) (ci := 10) (v := .ref (a0 0)) (C := RX10) (T := TX10) (N := 52) hx hb hts inlX10 hown hK hPD.1 0 rfl rfl 0 (by decide) (hts _ gw_539) (fun _ h9 => h9) rfl dX10_constable_31 ?_
      refine lv_bipush (v := 56) hx hb dX10_constable_34 (by decide) ?_
      refine lv_iload_n hx hb dX10_constable_36 rfl (lv_at hl 1 rfl) ?_
      refine lv_iadd hx hb dX10_constable_37 ?_
      refine lv_iload_n hx hb dX10_constable_38 rfl (lv_at hl 2 rfl) ?_
      obtain ⟨hi_3, h⟩ := ob h
      refine va_iast hx hb hK hPD.1 hPD.2 hS 1 1 rfl rfl hi_3 dX10_constable_39 (fun H locs hP hD hS => ?_)
      obtain ⟨A0_4, eA0_4, h⟩ := lvl h
      have hPD : WD G DA (wX10 G h0 a0 f0 A0_4) H := by rw [eA0_4]; exact ⟨hP, hD⟩
      clear eA0_4 hP hD
      refine lv_aload_n hx hb dX10_constable_40 rfl (lv_at hl 0 rfl) ?_
      refine va_get (D := G.1) (ci := 10) (v := .ref (a0 0)) (C := RX10) (T := TX10) (N := 52) hx hb hts inlX10 hown hK hPD.1 0 rfl rfl 0 (by decide) (hts _ gw_539) (fun _ h9 => h9) rfl dX10_constable_41 ?_
      refine lv_bipush (v := 64) hx hb dX10_constable_44 (by decide) ?_
      refine lv_iload_n hx hb dX10_constable_46 rfl (lv_at hl 1 rfl) ?_
      refine lv_iadd hx hb dX10_constable_47 ?_
      refine lv_iconst (v := 0) hx hb dX10_constable_48 (by decide) ?_
      obtain ⟨hi_5, h⟩ := ob h
      refine va_iast hx hb hK hPD.1 hPD.2 hS 1 1 rfl rfl hi_5 dX10_constable_49 (fun H locs hP hD hS => ?_)
      obtain ⟨A0_6, eA0_6, h⟩ := lvl h
      have hPD : WD G DA (wX10 G h0 a0 f0 A0_6) H := by rw [eA0_6]; exact ⟨hP, hD⟩
      clear eA0_6 hP hD
      refine lv_iconst (v := 1) hx hb dX10_constable_50 (by decide) ?_
      obtain rfl := Option.some.inj h
      exact eZ C0 hPD.1 hPD.2 hS rfl rfl dX10_constable_51
    · have h := (if_pos cc1).symm.trans h
      refine lv_iconst (v := 0) hx hb dX10_constable_18 (by decide) ?_
      obtain rfl := Option.some.inj h
      exact eZ C0 hPD.1 hPD.2 hS rfl rfl dX10_constable_19
abbrev rmX10_types : Room := { frames := 0, cells := 0, slots := 0, locals := 0 }
set_option maxRecDepth 100000 in
set_option maxHeartbeats 4000000 in
theorem ww_f10_types_b2  (C0 : Cx cX10_types 3 none RX10 p s m args meth c G DA) {h0 : Nat} {a0 : Nat → Nat} {p1 : Int32}  {k2 : (Nat → Nat → Int32) → (Nat → Int32) → Int32 → Option ((Nat → Nat → Int32) × (Nat → Int32))} {res : (Nat → Nat → Int32) × (Nat → Int32)}  (hk2 : ∀ (A0 : Nat → Nat → Int32) (f0 : Nat → Int32) (l2 : Int32), k2 A0 f0 l2 = some res → ∀ (H : Heap) (locs : List Loc) (ls : Array Slot), WD G DA (wX10 G h0 a0 f0 A0) H → va_S DA s.heap H locs → lv_has ls 3 [(0, .ref h0), (1, .int p1), (2, .int l2)] → W p l e rmX10_types s m args below meth c H locs 0 0 (MQ below (QV G DA (wX10 G h0 a0 res.2 res.1)) args s 0 0 DA) (F0 m 2 ls [])) : ∀ (A0 : Nat → Nat → Int32) (f0 : Nat → Int32) (l2 : Int32), f10_types_b2 p1  k2 A0 f0 l2 = some res → ∀ (H : Heap) (locs : List Loc) (ls : Array Slot), WD G DA (wX10 G h0 a0 f0 A0) H → va_S DA s.heap H locs → lv_has ls 3 [(0, .ref h0), (1, .int p1), (2, .int l2)] → W p l e rmX10_types s m args below meth c H locs 0 0 (MQ below (QV G DA (wX10 G h0 a0 res.2 res.1)) args s 0 0 DA) (F0 m 2 ls []) := by
  obtain ⟨hx, hb, hml, hown, hts⟩ := C0.1
  have hK := C0.2.2.2.1
  intro A0 f0 l2 h _ _ _ hPD hS hl
  unfold f10_types_b2 at h
  refine lv_iload_n hx hb dX10_types_2 rfl (lv_at hl 2 rfl) ?_
  refine lv_if_lt (tgt := 38) hx hb dX10_types_3 (by decide) (fun cc1 => ?_) (fun cc1 => ?_)
  · have h := (if_pos cc1).symm.trans h
    obtain rfl := Option.some.inj h
    exact eV C0 hPD.1 hPD.2 hS dX10_types_38
  · have h := (if_neg cc1).symm.trans h
    refine lv_aload_n hx hb dX10_types_6 rfl (lv_at hl 0 rfl) ?_
    refine va_get (D := G.1) (ci := 10) (v := .ref (a0 7)) (C := RX10) (T := TX10) (N := 52) hx hb hts inlX10 hown hK hPD.1 0 rfl rfl 7 (by decide) (hts _ gw_548) (fun _ h9 => h9) rfl dX10_types_7 ?_
    refine lv_aload_n hx hb dX10_types_10 rfl (lv_at hl 0 rfl) ?_
    refine va_get (D := G.1) (ci := 10) (v := .int (f0 8)) (C := RX10) (T := TX10) (N := 52) hx hb hts inlX10 hown hK hPD.1 0 rfl rfl 8 (by decide) (hts _ gw_549) (fun _ h9 => h9) rfl dX10_types_11 ?_
    refine lv_iload_n hx hb dX10_types_14 rfl (lv_at hl 1 rfl) ?_
    refine lv_bipush (v := 8) hx hb dX10_types_15 (by decide) ?_
    refine lv_iload_n hx hb dX10_types_17 rfl (lv_at hl 2 rfl) ?_
    refine lv_imul hx hb dX10_types_18 ?_
    refine lv_ishr hx hb dX10_types_19 ?_
    refine lv_i2b (v := i2b (shr p1 (8 * l2))) hx hb dX10_types_20 rfl ?_
    obtain ⟨hi_1, h⟩ := ob h
    refine va_bast hx hb hK hPD.1 hPD.2 hS 7 0 rfl rfl hi_1 dX10_types_21 (fun H locs hP hD hS => ?_)
    obtain ⟨A0_2, eA0_2, h⟩ := lvl h
    have hPD : WD G DA (wX10 G h0 a0 f0 A0_2) H := by rw [eA0_2]; exact ⟨hP, hD⟩
    clear eA0_2 hP hD
    refine lv_aload_n hx hb dX10_types_22 rfl (lv_at hl 0 rfl) ?_
    refine lv_aload_n hx hb dX10_types_23 rfl (lv_at hl 0 rfl) ?_
    refine va_get (D := G.1) (ci := 10) (v := .int (f0 8)) (C := RX10) (T := TX10) (N := 52) hx hb hts inlX10 hown hK hPD.1 0 rfl rfl 8 (by decide) (hts _ gw_549) (fun _ h9 => h9) rfl dX10_types_24 ?_
    refine lv_iconst (v := 1) hx hb dX10_types_27 (by decide) ?_
    refine lv_iadd hx hb dX10_types_28 ?_
    refine va_put (D := G.1) (ci := 10) (v := .int ((f0 8) + 1)) (ty := .int) (C := RX10) (T := TX10) (N := 52) hx hb hts inlX10 tyX10 tyX10_ok nmX10 hown hK hPD.1 hPD.2 hS 0 rfl rfl 8 (by decide) (hts _ gw_549) (fun _ h9 => h9) rfl (by decide +kernel) rfl rfl (Nat.le_of_ble_eq_true rfl) dX10_types_29 (fun H locs hP hD hS => ?_)
    obtain ⟨f0_3, ef0_3, h⟩ := lvl h
    have hPD : WD G DA (wX10 G h0 a0 f0_3 A0_2) H := by rw [ef0_3]; exact ⟨hP, hD⟩
    clear ef0_3 hP hD
    refine lv_iinc (v := l2 + (-1)) (lv' := [(2, .int (l2 + (-1))), (0, .ref h0), (1, .int p1)]) hx hb dX10_types_32 hl (k := 2) rfl rfl (by decide) rfl (fun ls hl => ?_)
    refine lv_goto (tgt := 2) hx hb dX10_types_35 (by decide) ?_
    exact hk2 A0_2 f0_3 (l2 + (-1)) h _ _ _ hPD hS (lv_sub hl [1, 2, 0] rfl)
set_option maxRecDepth 100000 in
set_option maxHeartbeats 4000000 in
theorem ww_f10_types_l2  (C0 : Cx cX10_types 3 none RX10 p s m args meth c G DA) {h0 : Nat} {a0 : Nat → Nat} {p1 : Int32}   {res : (Nat → Nat → Int32) × (Nat → Int32)}  : ∀ (n : Nat) (A0 : Nat → Nat → Int32) (f0 : Nat → Int32) (l2 : Int32), f10_types_l2 p1  n A0 f0 l2 = some res → ∀ (H : Heap) (locs : List Loc) (ls : Array Slot), WD G DA (wX10 G h0 a0 f0 A0) H → va_S DA s.heap H locs → lv_has ls 3 [(0, .ref h0), (1, .int p1), (2, .int l2)] → W p l e rmX10_types s m args below meth c H locs 0 0 (MQ below (QV G DA (wX10 G h0 a0 res.2 res.1)) args s 0 0 DA) (F0 m 2 ls []) := by
  intro n
  induction n with
  | zero => intro A0 f0 l2 h; cases h
  | succ n ih => intro A0 f0 l2 h; exact ww_f10_types_b2 C0  ih A0 f0 l2 h
set_option maxRecDepth 100000 in
set_option maxHeartbeats 4000000 in
theorem kt_X10_types (l : Launch) (G : Gp) (h0 : Nat) (a0 : Nat → Nat) (f0 : Nat → Int32) (A0 : Nat → Nat → Int32) (p1 : Int32) : ∀ {r : (Nat → Nat → Int32) × (Nat → Int32)}, f10_types f0 A0 p1 = some r → CtrV l yX10_types cX10_types 3 none rmX10_types G [.ref h0, .int p1] (wX10 G h0 a0 f0 A0) (wX10 G h0 a0 r.2 r.1) := by
  intro res h
  refine ctrV_of (cc := cX10_types) (maxL := 3) (ret := none) (by decide +kernel) rfl (Nat.le_of_ble_eq_true rfl) (fun p e s m below meth c DA C0 hP hD ls hl => ?_)
  have hPD : WD G DA (wX10 G h0 a0 f0 A0) s.heap := ⟨hP, hD⟩
  have hS : va_S DA s.heap s.heap [] := va_S.rf
  have hl : lv_has ls 3 [(0, .ref h0), (1, .int p1)] := hl
  obtain ⟨hx, hb, hml, hown, hts⟩ := C0.1
  have hK := C0.2.2.2.1
  unfold f10_types at h
  refine lv_iconst (v := 3) hx hb dX10_types_0 (by decide) ?_
  refine lv_istore_n (lv' := [(2, .int 3), (0, .ref h0), (1, .int p1)]) hx hb dX10_types_1 rfl hl (by decide) rfl (fun ls hl => ?_)
  exact ww_f10_types_l2 C0 NF A0 f0 3 h _ _ _ hPD hS (lv_sub hl [1, 2, 0] rfl)
abbrev rmX10_feed : Room := { frames := 1, cells := 0, slots := 0, locals := 22 }
set_option maxRecDepth 100000 in
set_option maxHeartbeats 4000000 in
theorem kt_X10_feed (l : Launch) (G : Gp) (h0 : Nat) (a0 : Nat → Nat) (f0 : Nat → Int32) (A0 : Nat → Nat → Int32) (p1 : Int32) (p2 : Int32) (p3 : Int32) (p4 : Int32) (p5 : Int32) : ∀ {r : Int32 × (Nat → Nat → Int32) × (Nat → Int32)}, f10_feed f0 A0 p1 p2 p3 p4 p5 = some r → CtrI l yX10_feed cX10_feed 6 (some .int) rmX10_feed G [.ref h0, .int p1, .int p2, .int p3, .int p4, .int p5] (wX10 G h0 a0 f0 A0) r.1 (wX10 G h0 a0 r.2.2 r.2.1) := by
  intro res h
  refine ctrI_of (cc := cX10_feed) (maxL := 6) (ret := (some .int)) (by decide +kernel) rfl (Nat.le_of_ble_eq_true rfl) (fun p e s m below meth c DA C0 hP hD ls hl => ?_)
  have hPD : WD G DA (wX10 G h0 a0 f0 A0) s.heap := ⟨hP, hD⟩
  have hS : va_S DA s.heap s.heap [] := va_S.rf
  have hl : lv_has ls 6 [(0, .ref h0), (1, .int p1), (2, .int p2), (3, .int p3), (4, .int p4), (5, .int p5)] := hl
  obtain ⟨hx, hb, hml, hown, hts⟩ := C0.1
  have hK := C0.2.2.2.1
  unfold f10_feed at h
  refine lv_aload_n hx hb dX10_feed_0 rfl (lv_at hl 0 rfl) ?_
  refine va_get (D := G.1) (ci := 10) (v := .int (f0 8)) (C := RX10) (T := TX10) (N := 52) hx hb hts inlX10 hown hK hPD.1 0 rfl rfl 8 (by decide) (hts _ gw_549) (fun _ h9 => h9) rfl dX10_feed_1 ?_
  refine lv_bipush (v := 20) hx hb dX10_feed_4 (by decide) ?_
  refine lv_iadd hx hb dX10_feed_6 ?_
  refine lv_sipush (v := 260) hx hb dX10_feed_7 (by decide) ?_
  refine lv_icmp_le (tgt := 15) hx hb dX10_feed_10 (by decide) (fun cc1 => ?_) (fun cc1 => ?_)
  · have h := (if_pos cc1).symm.trans h
    refine lv_aload_n hx hb dX10_feed_15 rfl (lv_at hl 0 rfl) ?_
    refine lv_iload_n hx hb dX10_feed_16 rfl (lv_at hl 1 rfl) ?_
    obtain ⟨q_1, hq_1, h⟩ := ob2 h
    refine kVV (As := [.int p1]) (rest := []) C0 (kt_X10_types l G h0 a0 f0 A0 p1 hq_1) gi_V_X10_134_X10_types (n := 1) rfl (by decide +kernel) rfl ⟨rfl, rfl, Nat.le_of_ble_eq_true rfl, Nat.le_of_ble_eq_true rfl⟩ hPD hS 0 10 rfl rfl rfl [0, 1, 2, 3, 4, 5, 6, 7, 8, 9, 10, 11, 12, 13, 14, 15, 16, 17, 18, 19, 20, 21, 22, 23, 24, 25, 26, 27, 28, 29, 30, 31, 32, 33] [] [0, 1, 2, 3, 4, 5, 6, 7, 8, 9, 10, 11, 12, 13, 14, 15, 16, 17, 18, 19, 20, 21, 22, 23, 24, 25, 26, 27, 28, 29, 30, 31, 32, 33] (wN := (wX10 G h0 a0 q_1.2 q_1.1)) rfl rfl rfl rfl rfl hl.1 (Nat.le_of_ble_eq_true rfl) dX10_feed_17 (fun H locs hPD hS => ?_)
    refine lv_aload_n hx hb dX10_feed_20 rfl (lv_at hl 0 rfl) ?_
    refine lv_iload_n hx hb dX10_feed_21 rfl (lv_at hl 2 rfl) ?_
    obtain ⟨q_2, hq_2, h⟩ := ob2 h
    refine kVV (As := [.int p2]) (rest := []) C0 (kt_X10_types l G h0 a0 q_1.2 q_1.1 p2 hq_2) gi_V_X10_134_X10_types (n := 1) rfl (by decide +kernel) rfl ⟨rfl, rfl, Nat.le_of_ble_eq_true rfl, Nat.le_of_ble_eq_true rfl⟩ hPD hS 0 10 rfl rfl rfl [0, 1, 2, 3, 4, 5, 6, 7, 8, 9, 10, 11, 12, 13, 14, 15, 16, 17, 18, 19, 20, 21, 22, 23, 24, 25, 26, 27, 28, 29, 30, 31, 32, 33] [] [0, 1, 2, 3, 4, 5, 6, 7, 8, 9, 10, 11, 12, 13, 14, 15, 16, 17, 18, 19, 20, 21, 22, 23, 24, 25, 26, 27, 28, 29, 30, 31, 32, 33] (wN := (wX10 G h0 a0 q_2.2 q_2.1)) rfl rfl rfl rfl rfl hl.1 (Nat.le_of_ble_eq_true rfl) dX10_feed_22 (fun H locs hPD hS => ?_)
    refine lv_aload_n hx hb dX10_feed_25 rfl (lv_at hl 0 rfl) ?_
    refine lv_iload_n hx hb dX10_feed_26 rfl (lv_at hl 3 rfl) ?_
    obtain ⟨q_3, hq_3, h⟩ := ob2 h
    refine kVV (As := [.int p3]) (rest := []) C0 (kt_X10_types l G h0 a0 q_2.2 q_2.1 p3 hq_3) gi_V_X10_134_X10_types (n := 1) rfl (by decide +kernel) rfl ⟨rfl, rfl, Nat.le_of_ble_eq_true rfl, Nat.le_of_ble_eq_true rfl⟩ hPD hS 0 10 rfl rfl rfl [0, 1, 2, 3, 4, 5, 6, 7, 8, 9, 10, 11, 12, 13, 14, 15, 16, 17, 18, 19, 20, 21, 22, 23, 24, 25, 26, 27, 28, 29, 30, 31, 32, 33] [] [0, 1, 2, 3, 4, 5, 6, 7, 8, 9, 10, 11, 12, 13, 14, 15, 16, 17, 18, 19, 20, 21, 22, 23, 24, 25, 26, 27, 28, 29, 30, 31, 32, 33] (wN := (wX10 G h0 a0 q_3.2 q_3.1)) rfl rfl rfl rfl rfl hl.1 (Nat.le_of_ble_eq_true rfl) dX10_feed_27 (fun H locs hPD hS => ?_)
    refine lv_aload_n hx hb dX10_feed_30 rfl (lv_at hl 0 rfl) ?_
    refine lv_iload hx hb dX10_feed_31 (lv_at hl 4 rfl) ?_
    obtain ⟨q_4, hq_4, h⟩ := ob2 h
    refine kVV (As := [.int p4]) (rest := []) C0 (kt_X10_types l G h0 a0 q_3.2 q_3.1 p4 hq_4) gi_V_X10_134_X10_types (n := 1) rfl (by decide +kernel) rfl ⟨rfl, rfl, Nat.le_of_ble_eq_true rfl, Nat.le_of_ble_eq_true rfl⟩ hPD hS 0 10 rfl rfl rfl [0, 1, 2, 3, 4, 5, 6, 7, 8, 9, 10, 11, 12, 13, 14, 15, 16, 17, 18, 19, 20, 21, 22, 23, 24, 25, 26, 27, 28, 29, 30, 31, 32, 33] [] [0, 1, 2, 3, 4, 5, 6, 7, 8, 9, 10, 11, 12, 13, 14, 15, 16, 17, 18, 19, 20, 21, 22, 23, 24, 25, 26, 27, 28, 29, 30, 31, 32, 33] (wN := (wX10 G h0 a0 q_4.2 q_4.1)) rfl rfl rfl rfl rfl hl.1 (Nat.le_of_ble_eq_true rfl) dX10_feed_33 (fun H locs hPD hS => ?_)
    refine lv_aload_n hx hb dX10_feed_36 rfl (lv_at hl 0 rfl) ?_
    refine lv_iload hx hb dX10_feed_37 (lv_at hl 5 rfl) ?_
    obtain ⟨q_5, hq_5, h⟩ := ob2 h
    refine kVV (As := [.int p5]) (rest := []) C0 (kt_X10_types l G h0 a0 q_4.2 q_4.1 p5 hq_5) gi_V_X10_134_X10_types (n := 1) rfl (by decide +kernel) rfl ⟨rfl, rfl, Nat.le_of_ble_eq_true rfl, Nat.le_of_ble_eq_true rfl⟩ hPD hS 0 10 rfl rfl rfl [0, 1, 2, 3, 4, 5, 6, 7, 8, 9, 10, 11, 12, 13, 14, 15, 16, 17, 18, 19, 20, 21, 22, 23, 24, 25, 26, 27, 28, 29, 30, 31, 32, 33] [] [0, 1, 2, 3, 4, 5, 6, 7, 8, 9, 10, 11, 12, 13, 14, 15, 16, 17, 18, 19, 20, 21, 22, 23, 24, 25, 26, 27, 28, 29, 30, 31, 32, 33] (wN := (wX10 G h0 a0 q_5.2 q_5.1)) rfl rfl rfl rfl rfl hl.1 (Nat.le_of_ble_eq_true rfl) dX10_feed_39 (fun H locs hPD hS => ?_)
    refine lv_aload_n hx hb dX10_feed_42 rfl (lv_at hl 0 rfl) ?_
    refine va_get (D := G.1) (ci := 10) (v := .int (q_5.2 8)) (C := RX10) (T := TX10) (N := 52) hx hb hts inlX10 hown hK hPD.1 0 rfl rfl 8 (by decide) (hts _ gw_549) (fun _ h9 => h9) rfl dX10_feed_43 ?_
    obtain rfl := Option.some.inj h
    exact eI C0 hPD.1 hPD.2 hS rfl dX10_feed_46
  · have h := (if_neg cc1).symm.trans h
    refine lv_iconst (v := (-1)) hx hb dX10_feed_13 (by decide) ?_
    obtain rfl := Option.some.inj h
    exact eI C0 hPD.1 hPD.2 hS rfl dX10_feed_14
end WALK
