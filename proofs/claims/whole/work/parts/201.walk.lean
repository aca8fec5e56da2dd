section WALK
variable {p : Program} {l : Launch} {e : Env} {s : State} {m : MethodId} {args : Array Value} {below : List Frame} {meth : Method} {c : Code} {G : Gp} {DA : Nat → Prop}
abbrev rmX1_shortestWays : Room := { frames := 4, cells := 0, slots := 0, locals := 91 }
set_option maxRecDepth 100000 in
set_option maxHeartbeats 4000000 in
theorem ww_f1_shortestWays_b49  (C0 : Cx cX1_shortestWays 5 (some .int) RX1 p s m args meth c G DA) {h0 : Nat} {a0 : Nat → Nat} {f0 : Nat → Int32} {p1 : Int32} {p2 : Int32}  {k40 : (Nat → Nat → Int32) → Int32 → Option (Int32 × (Nat → Nat → Int32))} {k49 : (Nat → Nat → Int32) → Int32 → Int32 → Option (Int32 × (Nat → Nat → Int32))} {res : Int32 × (Nat → Nat → Int32)} (hk40 : ∀ (A0 : Nat → Nat → Int32) (l3 : Int32), k40 A0 l3 = some res → ∀ (H : Heap) (locs : List Loc) (ls : Array Slot), WD G DA (wX1 G h0 a0 f0 A0) H → va_S DA s.heap H locs → lv_has ls 5 [(0, .ref h0), (1, .int p1), (2, .int p2), (3, .int l3)] → W p l e rmX1_shortestWays s m args below meth c H locs 0 0 (MQ below (QI G DA res.1 (wX1 G h0 a0 f0 res.2)) args s 0 0 DA) (F0 m 40 ls [])) (hk49 : ∀ (A0 : Nat → Nat → Int32) (l3 : Int32) (l4 : Int32), k49 A0 l3 l4 = some res → ∀ (H : Heap) (locs : List Loc) (ls : Array Slot), WD G DA (wX1 G h0 a0 f0 A0) H → va_S DA s.heap H locs → lv_has ls 5 [(0, .ref h0), (1, .int p1), (2, .int p2), (3, .int l3), (4, .int l4)] → W p l e rmX1_shortestWays s m args below meth c H locs 0 0 (MQ below (QI G DA res.1 (wX1 G h0 a0 f0 res.2)) args s 0 0 DA) (F0 m 49 ls [])) : ∀ (A0 : Nat → Nat → Int32) (l3 : Int32) (l4 : Int32), f1_shortestWays_b49 f0 p1 p2 k40 k49 A0 l3 l4 = some res → ∀ (H : Heap) (locs : List Loc) (ls : Array Slot), WD G DA (wX1 G h0 a0 f0 A0) H → va_S DA s.heap H locs → lv_has ls 5 [(0, .ref h0), (1, .int p1), (2, .int p2), (3, .int l3), (4, .int l4)] → W p l e rmX1_shortestWays s m args below meth c H locs 0 0 (MQ below (QI G DA res.1 (wX1 G h0 a0 f0 res.2)) args s 0 0 DA) (F0 m 49 ls []) := by
  obtain ⟨hx, hb, hml, hown, hts⟩ := C0.1
  have hK := C0.2.2.2.1
  intro A0 l3 l4 h _ _ _ hPD hS hl
  unfold f1_shortestWays_b49 at h
  refine lv_iload hx hb dX1_shortestWays_49 (lv_at hl 4 rfl) ?_
  refine lv_bipush (v := 16) hx hb dX1_shortestWays_51 (by decide) ?_
  refine lv_icmp_ge (tgt := 88) hx hb dX1_shortestWays_53 (by decide) (fun cc1 => ?_) (fun cc1 => ?_)
  · have h := (if_pos cc1).symm.trans h
    refine lv_iinc (v := l3 + 1) (lv' := [(3, .int (l3 + 1)), (0, .ref h0), (1, .int p1), (2, .int p2), (4, .int l4)]) hx hb dX1_shortestWays_88 hl (k := 3) rfl rfl (by decide) rfl (fun ls hl => ?_)
    refine lv_goto (tgt := 40) hx hb dX1_shortestWays_91 (by decide) ?_
    exact hk40 A0 (l3 + 1) h _ _ _ hPD hS (lv_sub hl [1, 2, 3, 0] rfl)
  · have h := (if_neg cc1).symm.trans h
    refine lv_aload_n hx hb dX1_shortestWays_56 rfl (lv_at hl 0 rfl) ?_
    refine lv_iload hx hb dX1_shortestWays_57 (lv_at hl 4 rfl) ?_
    refine kVI (As := [.int l4]) (rest := []) C0 (kt_X1_stepsTo l G h0 a0 f0 A0 l4) gi_V_X1_51_X1_stepsTo (n := 1) rfl (by decide +kernel) rfl ⟨rfl, rfl, Nat.le_of_ble_eq_true rfl, Nat.le_of_ble_eq_true rfl⟩ hPD hS 0 1 rfl rfl rfl [0, 1, 2, 3] [] [0, 1, 2, 3] (wN := (wX1 G h0 a0 f0 A0)) rfl rfl rfl rfl rfl hl.1 (Nat.le_of_ble_eq_true rfl) dX1_shortestWays_59 (fun H locs hPD hS => ?_)
    refine lv_iload_n hx hb dX1_shortestWays_62 rfl (lv_at hl 3 rfl) ?_
    refine lv_icmp_ne (tgt := 82) hx hb dX1_shortestWays_63 (by decide) (fun cc1 => ?_) (fun cc1 => ?_)
    · have h := (if_neg cc1).symm.trans h
      refine lv_iinc (v := l4 + 1) (lv' := [(4, .int (l4 + 1)), (0, .ref h0), (1, .int p1), (2, .int p2), (3, .int l3)]) hx hb dX1_shortestWays_82 hl (k := 4) rfl rfl (by decide) rfl (fun ls hl => ?_)
      refine lv_goto (tgt := 49) hx hb dX1_shortestWays_85 (by decide) ?_
      exact hk49 A0 l3 (l4 + 1) h _ _ _ hPD hS (lv_sub hl [1, 2, 3, 4, 0] rfl)
    · have h := (if_pos cc1).symm.trans h
      refine lv_aload_n hx hb dX1_shortestWays_66 rfl (lv_at hl 0 rfl) ?_
      refine va_get (D := G.1) (ci := 1) (v := .ref (a0 3)) (C := RX1) (T := TX1) (N := 4) hx hb hts inlX1 hown hK hPD.1 0 rfl rfl 3 (by decide) (hts _ gw_94) (fun _ h9 => h9) rfl dX1_shortestWays_67 ?_
      refine lv_iload hx hb dX1_shortestWays_70 (lv_at hl 4 rfl) ?_
      refine lv_aload_n hx hb dX1_shortestWays_72 rfl (lv_at hl 0 rfl) ?_
      refine lv_iload hx hb dX1_shortestWays_73 (lv_at hl 4 rfl) ?_
      refine lv_iload_n hx hb dX1_shortestWays_75 rfl (lv_at hl 3 rfl) ?_
      obtain ⟨q_2, hq_2, h⟩ := ob2 h
      refine kVI (As := [.int l4, .int l3]) (rest := [.int l4, .ref (a0 3)]) C0 (kt_X1_waysFromCloser l G h0 a0 f0 A0 l4 l3 hq_2) gi_V_X1_58_X1_waysFromCloser (n := 2) rfl (by decide +kernel) rfl ⟨rfl, rfl, Nat.le_of_ble_eq_true rfl, Nat.le_of_ble_eq_true rfl⟩ hPD hS 0 1 rfl rfl rfl [0, 1, 2, 3] [] [0, 1, 2, 3] (wN := (wX1 G h0 a0 f0 A0)) rfl rfl rfl rfl rfl hl.1 (Nat.le_of_ble_eq_true rfl) dX1_shortestWays_76 (fun H locs hPD hS => ?_)
      obtain ⟨z_3, ez_3, h⟩ := lvl h
      have kc := kt_X9_put l G (a0 3) 16 (A0 3) l4 q_2 (by decide)
      rw [← ez_3] at kc
      clear ez_3
      refine kNV (As := [.ref (a0 3), .int l4, .int q_2]) (rest := []) C0 (kc) gi_U_X9_put (host := "IdleCrimes") (index := 37) (List.mem_of_getElem? (i := 21) rfl) gw_6 gw_19 (n := 3) rfl (by decide +kernel) ⟨rfl, rfl, Nat.le_of_ble_eq_true rfl, Nat.le_of_ble_eq_true rfl⟩ hPD hS [3] [0, 1, 2] [0, 1, 2, 3] (wN := (wX1 G h0 a0 f0 (updA A0 3 z_3))) rfl rfl rfl rfl rfl hl.1 (Nat.le_of_ble_eq_true rfl) dX1_shortestWays_79 (fun H locs hPD hS => ?_)
      obtain ⟨A0_4, eA0_4, h⟩ := lvl h
      have hPD : WD G DA (wX1 G h0 a0 f0 A0_4) H := by rw [eA0_4]; exact hPD
      clear eA0_4
      refine lv_iinc (v := l4 + 1) (lv' := [(4, .int (l4 + 1)), (0, .ref h0), (1, .int p1), (2, .int p2), (3, .int l3)]) hx hb dX1_shortestWays_82 hl (k := 4) rfl rfl (by decide) rfl (fun ls hl => ?_)
      refine lv_goto (tgt := 49) hx hb dX1_shortestWays_85 (by decide) ?_
      exact hk49 A0_4 l3 (l4 + 1) h _ _ _ hPD hS (lv_sub hl [1, 2, 3, 4, 0] rfl)
set_option maxRecDepth 100000 in
set_option maxHeartbeats 4000000 in
theorem ww_f1_shortestWays_l49  (C0 : Cx cX1_shortestWays 5 (some .int) RX1 p s m args meth c G DA) {h0 : Nat} {a0 : Nat → Nat} {f0 : Nat → Int32} {p1 : Int32} {p2 : Int32}  {k40 : (Nat → Nat → Int32) → Int32 → Option (Int32 × (Nat → Nat → Int32))} {res : Int32 × (Nat → Nat → Int32)} (hk40 : ∀ (A0 : Nat → Nat → Int32) (l3 : Int32), k40 A0 l3 = some res → ∀ (H : Heap) (locs : List Loc) (ls : Array Slot), WD G DA (wX1 G h0 a0 f0 A0) H → va_S DA s.heap H locs → lv_has ls 5 [(0, .ref h0), (1, .int p1), (2, .int p2), (3, .int l3)] → W p l e rmX1_shortestWays s m args below meth c H locs 0 0 (MQ below (QI G DA res.1 (wX1 G h0 a0 f0 res.2)) args s 0 0 DA) (F0 m 40 ls [])) : ∀ (n : Nat) (A0 : Nat → Nat → Int32) (l3 : Int32) (l4 : Int32), f1_shortestWays_l49 f0 p1 p2 k40 n A0 l3 l4 = some res → ∀ (H : Heap) (locs : List Loc) (ls : Array Slot), WD G DA (wX1 G h0 a0 f0 A0) H → va_S DA s.heap H locs → lv_has ls 5 [(0, .ref h0), (1, .int p1), (2, .int p2), (3, .int l3), (4, .int l4)] → W p l e rmX1_shortestWays s m args below meth c H locs 0 0 (MQ below (QI G DA res.1 (wX1 G h0 a0 f0 res.2)) args s 0 0 DA) (F0 m 49 ls []) := by
  intro n
  induction n with
  | zero => intro A0 l3 l4 h; cases h
  | succ n ih => intro A0 l3 l4 h; exact ww_f1_shortestWays_b49 C0 hk40 ih A0 l3 l4 h
set_option maxRecDepth 100000 in
set_option maxHeartbeats 4000000 in
theorem ww_f1_shortestWays_b40  (C0 : Cx cX1_shortestWays 5 (some .int) RX1 p s m args meth c G DA) {h0 : Nat} {a0 : Nat → Nat} {f0 : Nat → Int32} {p1 : Int32} {p2 : Int32}  {k40 : (Nat → Nat → Int32) → Int32 → Option (Int32 × (Nat → Nat → Int32))} {res : Int32 × (Nat → Nat → Int32)}  (hk40 : ∀ (A0 : Nat → Nat → Int32) (l3 : Int32), k40 A0 l3 = some res → ∀ (H : Heap) (locs : List Loc) (ls : Array Slot), WD G DA (wX1 G h0 a0 f0 A0) H → va_S DA s.heap H locs → lv_has ls 5 [(0, .ref h0), (1, .int p1), (2, .int p2), (3, .int l3)] → W p l e rmX1_shortestWays s m args below meth c H locs 0 0 (MQ below (QI G DA res.1 (wX1 G h0 a0 f0 res.2)) args s 0 0 DA) (F0 m 40 ls [])) : ∀ (A0 : Nat → Nat → Int32) (l3 : Int32), f1_shortestWays_b40 f0 p1 p2  k40 A0 l3 = some res → ∀ (H : Heap) (locs : List Loc) (ls : Array Slot), WD G DA (wX1 G h0 a0 f0 A0) H → va_S DA s.heap H locs → lv_has ls 5 [(0, .ref h0), (1, .int p1), (2, .int p2), (3, .int l3)] → W p l e rmX1_shortestWays s m args below meth c H locs 0 0 (MQ below (QI G DA res.1 (wX1 G h0 a0 f0 res.2)) args s 0 0 DA) (F0 m 40 ls []) := by
  obtain ⟨hx, hb, hml, hown, hts⟩ := C0.1
  have hK := C0.2.2.2.1
  intro A0 l3 h _ _ _ hPD hS hl
  unfold f1_shortestWays_b40 at h
  refine lv_iload_n hx hb dX1_shortestWays_40 rfl (lv_at hl 3 rfl) ?_
  refine lv_bipush (v := 16) hx hb dX1_shortestWays_41 (by decide) ?_
  refine lv_icmp_ge (tgt := 94) hx hb dX1_shortestWays_43 (by decide) (fun cc1 => ?_) (fun cc1 => ?_)
  · have h := (if_pos cc1).symm.trans h
    refine lv_aload_n hx hb dX1_shortestWays_94 rfl (lv_at hl 0 rfl) ?_
    refine va_get (D := G.1) (ci := 1) (v := .ref (a0 3)) (C := RX1) (T := TX1) (N := 4) hx hb hts inlX1 hown hK hPD.1 0 rfl rfl 3 (by decide) (hts _ gw_94) (fun _ h9 => h9) rfl dX1_shortestWays_95 ?_
    refine lv_iload_n hx hb dX1_shortestWays_98 rfl (lv_at hl 2 rfl) ?_
    refine kNI (As := [.ref (a0 3), .int p2]) (rest := []) C0 (kt_X9_at l G (a0 3) 16 (A0 3) p2 (by decide)) gi_U_X9_at (host := "IdleCrimes") (index := 33) (List.mem_of_getElem? (i := 20) rfl) gw_6 gw_7 (n := 2) rfl (by decide +kernel) ⟨rfl, rfl, Nat.le_of_ble_eq_true rfl, Nat.le_of_ble_eq_true rfl⟩ hPD hS [3] [0, 1, 2] [0, 1, 2, 3] (wN := (wX1 G h0 a0 f0 A0)) rfl rfl rfl rfl rfl hl.1 (Nat.le_of_ble_eq_true rfl) dX1_shortestWays_99 (fun H locs hPD hS => ?_)
    obtain rfl := Option.some.inj h
    exact eI C0 hPD.1 hPD.2 hS rfl dX1_shortestWays_102
  · have h := (if_neg cc1).symm.trans h
    refine lv_iconst (v := 0) hx hb dX1_shortestWays_46 (by decide) ?_
    refine lv_istore (lv' := [(4, .int 0), (0, .ref h0), (1, .int p1), (2, .int p2), (3, .int l3)]) hx hb dX1_shortestWays_47 hl (by decide) rfl (fun ls hl => ?_)
    exact ww_f1_shortestWays_l49 C0 hk40 NF A0 l3 0 h _ _ _ hPD hS (lv_sub hl [1, 2, 3, 4, 0] rfl)
set_option maxRecDepth 100000 in
set_option maxHeartbeats 4000000 in
theorem ww_f1_shortestWays_l40  (C0 : Cx cX1_shortestWays 5 (some .int) RX1 p s m args meth c G DA) {h0 : Nat} {a0 : Nat → Nat} {f0 : Nat → Int32} {p1 : Int32} {p2 : Int32}   {res : Int32 × (Nat → Nat → Int32)}  : ∀ (n : Nat) (A0 : Nat → Nat → Int32) (l3 : Int32), f1_shortestWays_l40 f0 p1 p2  n A0 l3 = some res → ∀ (H : Heap) (locs : List Loc) (ls : Array Slot), WD G DA (wX1 G h0 a0 f0 A0) H → va_S DA s.heap H locs → lv_has ls 5 [(0, .ref h0), (1, .int p1), (2, .int p2), (3, .int l3)] → W p l e rmX1_shortestWays s m args below meth c H locs 0 0 (MQ below (QI G DA res.1 (wX1 G h0 a0 f0 res.2)) args s 0 0 DA) (F0 m 40 ls []) := by
  intro n
  induction n with
  | zero => intro A0 l3 h; cases h
  | succ n ih => intro A0 l3 h; exact ww_f1_shortestWays_b40 C0  ih A0 l3 h
set_option maxRecDepth 100000 in
set_option maxHeartbeats 4000000 in
theorem ww_f1_shortestWays_b7  (C0 : Cx cX1_shortestWays 5 (some .int) RX1 p s m args meth c G DA) {h0 : Nat} {a0 : Nat → Nat} {f0 : Nat → Int32} {p1 : Int32} {p2 : Int32}  {k7 : (Nat → Nat → Int32) → Int32 → Option (Int32 × (Nat → Nat → Int32))} {res : Int32 × (Nat → Nat → Int32)}  (hk7 : ∀ (A0 : Nat → Nat → Int32) (l3 : Int32), k7 A0 l3 = some res → ∀ (H : Heap) (locs : List Loc) (ls : Array Slot), WD G DA (wX1 G h0 a0 f0 A0) H → va_S DA s.heap H locs → lv_has ls 5 [(0, .ref h0), (1, .int p1), (2, .int p2), (3, .int l3)] → W p l e rmX1_shortestWays s m args below meth c H locs 0 0 (MQ below (QI G DA res.1 (wX1 G h0 a0 f0 res.2)) args s 0 0 DA) (F0 m 7 ls [])) : ∀ (A0 : Nat → Nat → Int32) (l3 : Int32), f1_shortestWays_b7 f0 p1 p2  k7 A0 l3 = some res → ∀ (H : Heap) (locs : List Loc) (ls : Array Slot), WD G DA (wX1 G h0 a0 f0 A0) H → va_S DA s.heap H locs → lv_has ls 5 [(0, .ref h0), (1, .int p1), (2, .int p2), (3, .int l3)] → W p l e rmX1_shortestWays s m args below meth c H locs 0 0 (MQ below (QI G DA res.1 (wX1 G h0 a0 f0 res.2)) args s 0 0 DA) (F0 m 7 ls []) := by
  obtain ⟨hx, hb, hml, hown, hts⟩ := C0.1
  have hK := C0.2.2.2.1
  intro A0 l3 h _ _ _ hPD hS hl
  unfold f1_shortestWays_b7 at h
  refine lv_iload_n hx hb dX1_shortestWays_7 rfl (lv_at hl 3 rfl) ?_
  refine lv_aload_n hx hb dX1_shortestWays_8 rfl (lv_at hl 0 rfl) ?_
  refine va_get (D := G.1) (ci := 1) (v := .ref (a0 3)) (C := RX1) (T := TX1) (N := 4) hx hb hts inlX1 hown hK hPD.1 0 rfl rfl 3 (by decide) (hts _ gw_94) (fun _ h9 => h9) rfl dX1_shortestWays_9 ?_
  refine va_alen (v := 16) hx hb hK hPD.1 3 1 rfl rfl rfl dX1_shortestWays_12 ?_
  refine lv_icmp_ge (tgt := 38) hx hb dX1_shortestWays_13 (by decide) (fun cc1 => ?_) (fun cc1 => ?_)
  · have h := (if_pos cc1).symm.trans h
    refine lv_iconst (v := 1) hx hb dX1_shortestWays_38 (by decide) ?_
    refine lv_istore_n (lv' := [(3, .int 1), (0, .ref h0), (1, .int p1), (2, .int p2)]) hx hb dX1_shortestWays_39 rfl hl (by decide) rfl (fun ls hl => ?_)
    exact ww_f1_shortestWays_l40 C0 NF A0 1 h _ _ _ hPD hS (lv_sub hl [1, 2, 3, 0] rfl)
  · have h := (if_neg cc1).symm.trans h
    refine lv_aload_n hx hb dX1_shortestWays_16 rfl (lv_at hl 0 rfl) ?_
    refine va_get (D := G.1) (ci := 1) (v := .ref (a0 3)) (C := RX1) (T := TX1) (N := 4) hx hb hts inlX1 hown hK hPD.1 0 rfl rfl 3 (by decide) (hts _ gw_94) (fun _ h9 => h9) rfl dX1_shortestWays_17 ?_
    refine lv_iload_n hx hb dX1_shortestWays_20 rfl (lv_at hl 3 rfl) ?_
    refine lv_iload_n hx hb dX1_shortestWays_21 rfl (lv_at hl 3 rfl) ?_
    refine lv_iload_n hx hb dX1_shortestWays_22 rfl (lv_at hl 1 rfl) ?_
    refine lv_icmp_ne (tgt := 30) hx hb dX1_shortestWays_23 (by decide) (fun cc1 => ?_) (fun cc1 => ?_)
    · have h := (if_neg cc1).symm.trans h
      refine lv_iconst (v := 0) hx hb dX1_shortestWays_30 (by decide) ?_
      obtain ⟨hi_5, h⟩ := ob h
      refine va_iast hx hb hK hPD.1 hPD.2 hS 3 1 rfl rfl hi_5 dX1_shortestWays_31 (fun H locs hP hD hS => ?_)
      obtain ⟨A0_6, eA0_6, h⟩ := lvl h
      have hPD : WD G DA (wX1 G h0 a0 f0 A0_6) H := by rw [eA0_6]; exact ⟨hP, hD⟩
      clear eA0_6 hP hD
      refine lv_iinc (v := l3 + 1) (lv' := [(3, .int (l3 + 1)), (0, .ref h0), (1, .int p1), (2, .int p2)]) hx hb dX1_shortestWays_32 hl (k := 3) rfl rfl (by decide) rfl (fun ls hl => ?_)
      refine lv_goto (tgt := 7) hx hb dX1_shortestWays_35 (by decide) ?_
      exact hk7 A0_6 (l3 + 1) h _ _ _ hPD hS (lv_sub hl [1, 2, 3, 0] rfl)
    · have h := (if_pos cc1).symm.trans h
      refine lv_iconst (v := 1) hx hb dX1_shortestWays_26 (by decide) ?_
      refine lv_goto (tgt := 31) hx hb dX1_shortestWays_27 (by decide) ?_
      obtain ⟨hi_7, h⟩ := ob h
      refine va_iast hx hb hK hPD.1 hPD.2 hS 3 1 rfl rfl hi_7 dX1_shortestWays_31 (fun H locs hP hD hS => ?_)
      obtain ⟨A0_8, eA0_8, h⟩ := lvl h
      have hPD : WD G DA (wX1 G h0 a0 f0 A0_8) H := by rw [eA0_8]; exact ⟨hP, hD⟩
      clear eA0_8 hP hD
      refine lv_iinc (v := l3 + 1) (lv' := [(3, .int (l3 + 1)), (0, .ref h0), (1, .int p1), (2, .int p2)]) hx hb dX1_shortestWays_32 hl (k := 3) rfl rfl (by decide) rfl (fun ls hl => ?_)
      refine lv_goto (tgt := 7) hx hb dX1_shortestWays_35 (by decide) ?_
      exact hk7 A0_8 (l3 + 1) h _ _ _ hPD hS (lv_sub hl [1, 2, 3, 0] rfl)
set_option maxRecDepth 100000 in
set_option maxHeartbeats 4000000 in
theorem ww_f1_shortestWays_l7  (C0 : Cx cX1_shortestWays 5 (some .int) RX1 p s m args meth c G DA) {h0 : Nat} {a0 : Nat → Nat} {f0 : Nat → Int32} {p1 : Int32} {p2 : Int32}   {res : Int32 × (Nat → Nat → Int32)}  : ∀ (n : Nat) (A0 : Nat → Nat → Int32) (l3 : Int32), f1_shortestWays_l7 f0 p1 p2  n A0 l3 = some res → ∀ (H : Heap) (locs : List Loc) (ls : Array Slot), WD G DA (wX1 G h0 a0 f0 A0) H → va_S DA s.heap H locs → lv_has ls 5 [(0, .ref h0), (1, .int p1), (2, .int p2), (3, .int l3)] → W p l e rmX1_shortestWays s m args below meth c H locs 0 0 (MQ below (QI G DA res.1 (wX1 G h0 a0 f0 res.2)) args s 0 0 DA) (F0 m 7 ls []) := by
  intro n
  induction n with
  | zero => intro A0 l3 h; cases h
  | succ n ih => intro A0 l3 h; exact ww_f1_shortestWays_b7 C0  ih A0 l3 h
set_option maxRecDepth 100000 in
set_option maxHeartbeats 4000000 in
theorem kt_X1_shortestWays (l : Launch) (G : Gp) (h0 : Nat) (a0 : Nat → Nat) (f0 : Nat → Int32) (A0 : Nat → Nat → Int32) (p1 : Int32) (p2 : Int32) : ∀ {r : Int32 × (Nat → Nat → Int32)}, f1_shortestWays f0 A0 p1 p2 = some r → CtrI l yX1_shortestWays cX1_shortestWays 5 (some .int) rmX1_shortestWays G [.ref h0, .int p1, .int p2] (wX1 G h0 a0 f0 A0) r.1 (wX1 G h0 a0 f0 r.2) := by
  intro res h
  refine ctrI_of (cc := cX1_shortestWays) (maxL := 5) (ret := (some .int)) (by decide +kernel) rfl (Nat.le_of_ble_eq_true rfl) (fun p e s m below meth c DA C0 hP hD ls hl => ?_)
  have hPD : WD G DA (wX1 G h0 a0 f0 A0) s.heap := ⟨hP, hD⟩
  have hS : va_S DA s.heap s.heap [] := va_S.rf
  have hl : lv_has ls 5 [(0, .ref h0), (1, .int p1), (2, .int p2)] := hl
  obtain ⟨hx, hb, hml, hown, hts⟩ := C0.1
  have hK := C0.2.2.2.1
  unfold f1_shortestWays at h
  refine lv_aload_n hx hb dX1_shortestWays_0 rfl (lv_at hl 0 rfl) ?_
  refine lv_iload_n hx hb dX1_shortestWays_1 rfl (lv_at hl 1 rfl) ?_
  obtain ⟨q_1, hq_1, h⟩ := ob2 h
  refine kVV (As := [.int p1]) (rest := []) C0 (kt_X1_measure l G h0 a0 f0 A0 p1 hq_1) gi_V_X1_54_X1_measure (n := 1) rfl (by decide +kernel) rfl ⟨rfl, rfl, Nat.le_of_ble_eq_true rfl, Nat.le_of_ble_eq_true rfl⟩ hPD hS 0 1 rfl rfl rfl [0, 1, 2, 3] [] [0, 1, 2, 3] (wN := (wX1 G h0 a0 f0 q_1)) rfl rfl rfl rfl rfl hl.1 (Nat.le_of_ble_eq_true rfl) dX1_shortestWays_2 (fun H locs hPD hS => ?_)
  refine lv_iconst (v := 0) hx hb dX1_shortestWays_5 (by decide) ?_
  refine lv_istore_n (lv' := [(3, .int 0), (0, .ref h0), (1, .int p1), (2, .int p2)]) hx hb dX1_shortestWays_6 rfl hl (by decide) rfl (fun ls hl => ?_)
  exact ww_f1_shortestWays_l7 C0 NF q_1 0 h _ _ _ hPD hS (lv_sub hl [1, 2, 3, 0] rfl)
abbrev rmJ6_bitCount_0f7a4 : Room := { frames := 0, cells := 0, slots := 0, locals := 0 }
set_option maxRecDepth 100000 in
set_option maxHeartbeats 4000000 in
theorem kt_J6_bitCount_0f7a4 (l : Launch) (G : Gp) (p0 : Int32) : CtrI l yJ6_bitCount_0f7a4 cJ6_bitCount_0f7a4 1 (some .int) rmJ6_bitCount_0f7a4 G [.int p0] ([] : va_W) (fJ6_bitCount_0f7a4 p0) ([] : va_W) := by
  obtain ⟨res, h⟩ : ∃ res, fJ6_bitCount_0f7a4 p0 = res := ⟨_, rfl⟩
  rw [h]
  refine ctrI_of (cc := cJ6_bitCount_0f7a4) (maxL := 1) (ret := (some .int)) (by decide +kernel) rfl (Nat.le_of_ble_eq_true rfl) (fun p e s m below meth c DA C0 hP hD ls hl => ?_)
  have hPD : WD G DA ([] : va_W) s.heap := ⟨hP, hD⟩
  have hS : va_S DA s.heap s.heap [] := va_S.rf
  have hl : lv_has ls 1 [(0, .int p0)] := hl
  obtain ⟨hx, hb, hml, hown, hts⟩ := C0.1
  have hK := C0.2.2.2.1
  unfold fJ6_bitCount_0f7a4 at h
  refine lv_iload_n hx hb dJ6_bitCount_0f7a4_0 rfl (lv_at hl 0 rfl) ?_
  refine lv_iload_n hx hb dJ6_bitCount_0f7a4_1 rfl (lv_at hl 0 rfl) ?_
  refine lv_iconst (v := 1) hx hb dJ6_bitCount_0f7a4_2 (by decide) ?_
  refine lv_iushr (v := ushr p0 1) hx hb dJ6_bitCount_0f7a4_3 rfl ?_
  refine lv_ldcw (v := 1431655765) hx hb hown (hts _ gw_103) dJ6_bitCount_0f7a4_4 ?_
  refine lv_iand hx hb dJ6_bitCount_0f7a4_7 ?_
  refine lv_isub hx hb dJ6_bitCount_0f7a4_8 ?_
  refine lv_istore_n (lv' := [(0, .int (p0 - ((ushr p0 1) &&& 1431655765)))]) hx hb dJ6_bitCount_0f7a4_9 rfl hl (by decide) rfl (fun ls hl => ?_)
  refine lv_iload_n hx hb dJ6_bitCount_0f7a4_10 rfl (lv_at hl 0 rfl) ?_
  refine lv_ldcw (v := 858993459) hx hb hown (hts _ gw_104) dJ6_bitCount_0f7a4_11 ?_
  refine lv_iand hx hb dJ6_bitCount_0f7a4_14 ?_
  refine lv_iload_n hx hb dJ6_bitCount_0f7a4_15 rfl (lv_at hl 0 rfl) ?_
  refine lv_iconst (v := 2) hx hb dJ6_bitCount_0f7a4_16 (by decide) ?_
  refine lv_iushr (v := ushr (p0 - ((ushr p0 1) &&& 1431655765)) 2) hx hb dJ6_bitCount_0f7a4_17 rfl ?_
  refine lv_ldcw (v := 858993459) hx hb hown (hts _ gw_104) dJ6_bitCount_0f7a4_18 ?_
  refine lv_iand hx hb dJ6_bitCount_0f7a4_21 ?_
  refine lv_iadd hx hb dJ6_bitCount_0f7a4_22 ?_
  obtain ⟨x_1, ex_1, h⟩ := lvl h
  refine lv_nm ex_1 ?_
  refine lv_istore_n (lv' := [(0, .int x_1)]) hx hb dJ6_bitCount_0f7a4_23 rfl hl (by decide) rfl (fun ls hl => ?_)
  refine lv_iload_n hx hb dJ6_bitCount_0f7a4_24 rfl (lv_at hl 0 rfl) ?_
  refine lv_iload_n hx hb dJ6_bitCount_0f7a4_25 rfl (lv_at hl 0 rfl) ?_
  refine lv_iconst (v := 4) hx hb dJ6_bitCount_0f7a4_26 (by decide) ?_
  refine lv_iushr (v := ushr x_1 4) hx hb dJ6_bitCount_0f7a4_27 rfl ?_
  refine lv_iadd hx hb dJ6_bitCount_0f7a4_28 ?_
  refine lv_ldcw (v := 252645135) hx hb hown (hts _ gw_105) dJ6_bitCount_0f7a4_29 ?_
  refine lv_iand hx hb dJ6_bitCount_0f7a4_32 ?_
  refine lv_istore_n (lv' := [(0, .int ((x_1 + (ushr x_1 4)) &&& 252645135))]) hx hb dJ6_bitCount_0f7a4_33 rfl hl (by decide) rfl (fun ls hl => ?_)
  refine lv_iload_n hx hb dJ6_bitCount_0f7a4_34 rfl (lv_at hl 0 rfl) ?_
  refine lv_iload_n hx hb dJ6_bitCount_0f7a4_35 rfl (lv_at hl 0 rfl) ?_
  refine lv_bipush (v := 8) hx hb dJ6_bitCount_0f7a4_36 (by decide) ?_
  refine lv_iushr (v := ushr ((x_1 + (ushr x_1 4)) &&& 252645135) 8) hx hb dJ6_bitCount_0f7a4_38 rfl ?_
  refine lv_iadd hx hb dJ6_bitCount_0f7a4_39 ?_
  obtain ⟨x_2, ex_2, h⟩ := lvl h
  refine lv_nm ex_2 ?_
  refine lv_istore_n (lv' := [(0, .int x_2)]) hx hb dJ6_bitCount_0f7a4_40 rfl hl (by decide) rfl (fun ls hl => ?_)
  refine lv_iload_n hx hb dJ6_bitCount_0f7a4_41 rfl (lv_at hl 0 rfl) ?_
  refine lv_iload_n hx hb dJ6_bitCount_0f7a4_42 rfl (lv_at hl 0 rfl) ?_
  refine lv_bipush (v := 16) hx hb dJ6_bitCount_0f7a4_43 (by decide) ?_
  refine lv_iushr (v := ushr x_2 16) hx hb dJ6_bitCount_0f7a4_45 rfl ?_
  refine lv_iadd hx hb dJ6_bitCount_0f7a4_46 ?_
  refine lv_istore_n (lv' := [(0, .int (x_2 + (ushr x_2 16)))]) hx hb dJ6_bitCount_0f7a4_47 rfl hl (by decide) rfl (fun ls hl => ?_)
  refine lv_iload_n hx hb dJ6_bitCount_0f7a4_48 rfl (lv_at hl 0 rfl) ?_
  refine lv_bipush (v := 63) hx hb dJ6_bitCount_0f7a4_49 (by decide) ?_
  refine lv_iand hx hb dJ6_bitCount_0f7a4_51 ?_
  subst h
  exact eI C0 hPD.1 hPD.2 hS rfl dJ6_bitCount_0f7a4_52
abbrev rmX1_lanesInAll : Room := { frames := 1, cells := 0, slots := 0, locals := 21 }
set_option maxRecDepth 100000 in
set_option maxHeartbeats 4000000 in
theorem ww_f1_lanesInAll_b4  (C0 : Cx cX1_lanesInAll 3 (some .int) RX1 p s m args meth c G DA) {h0 : Nat} {a0 : Nat → Nat} {f0 : Nat → Int32} {A0 : Nat → Nat → Int32}  {k4 : Int32 → Int32 → Option (Int32)} {res : Int32}  (hk4 : ∀ (l1 : Int32) (l2 : Int32), k4 l1 l2 = some res → ∀ (H : Heap) (locs : List Loc) (ls : Array Slot), WD G DA (wX1 G h0 a0 f0 A0) H → va_S DA s.heap H locs → lv_has ls 3 [(0, .ref h0), (1, .int l1), (2, .int l2)] → W p l e rmX1_lanesInAll s m args below meth c H locs 0 0 (MQ below (QI G DA res (wX1 G h0 a0 f0 A0)) args s 0 0 DA) (F0 m 4 ls [])) : ∀ (l1 : Int32) (l2 : Int32), f1_lanesInAll_b4 f0 A0  k4 l1 l2 = some res → ∀ (H : Heap) (locs : List Loc) (ls : Array Slot), WD G DA (wX1 G h0 a0 f0 A0) H → va_S DA s.heap H locs → lv_has ls 3 [(0, .ref h0), (1, .int l1), (2, .int l2)] → W p l e rmX1_lanesInAll s m args below meth c H locs 0 0 (MQ below (QI G DA res (wX1 G h0 a0 f0 A0)) args s 0 0 DA) (F0 m 4 ls []) := by
  obtain ⟨hx, hb, hml, hown, hts⟩ := C0.1
  have hK := C0.2.2.2.1
  intro l1 l2 h _ _ _ hPD hS hl
  unfold f1_lanesInAll_b4 at h
  refine lv_iload_n hx hb dX1_lanesInAll_4 rfl (lv_at hl 2 rfl) ?_
  refine lv_bipush (v := 16) hx hb dX1_lanesInAll_5 (by decide) ?_
  refine lv_icmp_ge (tgt := 30) hx hb dX1_lanesInAll_7 (by decide) (fun cc1 => ?_) (fun cc1 => ?_)
  · have h := (if_pos cc1).symm.trans h
    refine lv_iload_n hx hb dX1_lanesInAll_30 rfl (lv_at hl 1 rfl) ?_
    refine lv_iconst (v := 2) hx hb dX1_lanesInAll_31 (by decide) ?_
    refine lv_idiv hx hb dX1_lanesInAll_32 (by decide) ?_
    obtain rfl := Option.some.inj h
    exact eI C0 hPD.1 hPD.2 hS rfl dX1_lanesInAll_33
  · have h := (if_neg cc1).symm.trans h
    refine lv_iload_n hx hb dX1_lanesInAll_10 rfl (lv_at hl 1 rfl) ?_
    refine lv_aload_n hx hb dX1_lanesInAll_11 rfl (lv_at hl 0 rfl) ?_
    refine va_get (D := G.1) (ci := 1) (v := .ref (a0 1)) (C := RX1) (T := TX1) (N := 4) hx hb hts inlX1 hown hK hPD.1 0 rfl rfl 1 (by decide) (hts _ gw_75) (fun _ h9 => h9) rfl dX1_lanesInAll_12 ?_
    refine lv_iload_n hx hb dX1_lanesInAll_15 rfl (lv_at hl 2 rfl) ?_
    refine kNI (As := [.ref (a0 1), .int l2]) (rest := [.int l1]) C0 (kt_X9_at l G (a0 1) 16 (A0 1) l2 (by decide)) gi_U_X9_at (host := "IdleCrimes") (index := 33) (List.mem_of_getElem? (i := 20) rfl) gw_6 gw_7 (n := 2) rfl (by decide +kernel) ⟨rfl, rfl, Nat.le_of_ble_eq_true rfl, Nat.le_of_ble_eq_true rfl⟩ hPD hS [1] [0, 2, 3] [0, 3, 1, 2] (wN := (wX1 G h0 a0 f0 A0)) rfl rfl rfl rfl rfl hl.1 (Nat.le_of_ble_eq_true rfl) dX1_lanesInAll_16 (fun H locs hPD hS => ?_)
    refine kSI (As := [.int (f9_at 16 (A0 1) l2)]) (rest := [.int l1]) C0 (kt_J6_bitCount_0f7a4 l G  (f9_at 16 (A0 1) l2)) gi_S_X1_62_J6_bitCount_0f7a4 (n := 1) rfl (by decide +kernel) ⟨rfl, rfl, Nat.le_of_ble_eq_true rfl, Nat.le_of_ble_eq_true rfl⟩ hPD hS [] [0, 1, 2, 3] [0, 1, 2, 3] (wN := (wX1 G h0 a0 f0 A0)) rfl rfl rfl rfl rfl hl.1 (Nat.le_of_ble_eq_true rfl) dX1_lanesInAll_19 (fun H locs hPD hS => ?_)
    refine lv_iadd hx hb dX1_lanesInAll_22 ?_
    refine lv_istore_n (lv' := [(1, .int (l1 + (fJ6_bitCount_0f7a4 (f9_at 16 (A0 1) l2)))), (0, .ref h0), (2, .int l2)]) hx hb dX1_lanesInAll_23 rfl hl (by decide) rfl (fun ls hl => ?_)
    refine lv_iinc (v := l2 + 1) (lv' := [(2, .int (l2 + 1)), (1, .int (l1 + (fJ6_bitCount_0f7a4 (f9_at 16 (A0 1) l2)))), (0, .ref h0)]) hx hb dX1_lanesInAll_24 hl (k := 2) rfl rfl (by decide) rfl (fun ls hl => ?_)
    refine lv_goto (tgt := 4) hx hb dX1_lanesInAll_27 (by decide) ?_
    exact hk4 (l1 + (fJ6_bitCount_0f7a4 (f9_at 16 (A0 1) l2))) (l2 + 1) h _ _ _ hPD hS (lv_sub hl [2, 1, 0] rfl)
set_option maxRecDepth 100000 in
set_option maxHeartbeats 4000000 in
theorem ww_f1_lanesInAll_l4  (C0 : Cx cX1_lanesInAll 3 (some .int) RX1 p s m args meth c G DA) {h0 : Nat} {a0 : Nat → Nat} {f0 : Nat → Int32} {A0 : Nat → Nat → Int32}   {res : Int32}  : ∀ (n : Nat) (l1 : Int32) (l2 : Int32), f1_lanesInAll_l4 f0 A0  n l1 l2 = some res → ∀ (H : Heap) (locs : List Loc) (ls : Array Slot), WD G DA (wX1 G h0 a0 f0 A0) H → va_S DA s.heap H locs → lv_has ls 3 [(0, .ref h0), (1, .int l1), (2, .int l2)] → W p l e rmX1_lanesInAll s m args below meth c H locs 0 0 (MQ below (QI G DA res (wX1 G h0 a0 f0 A0)) args s 0 0 DA) (F0 m 4 ls []) := by
  intro n
  induction n with
  | zero => intro l1 l2 h; cases h
  | succ n ih => intro l1 l2 h; exact ww_f1_lanesInAll_b4 C0  ih l1 l2 h
set_option maxRecDepth 100000 in
set_option maxHeartbeats 4000000 in
theorem kt_X1_lanesInAll (l : Launch) (G : Gp) (h0 : Nat) (a0 : Nat → Nat) (f0 : Nat → Int32) (A0 : Nat → Nat → Int32) : ∀ {r : Int32}, f1_lanesInAll f0 A0 = some r → CtrI l yX1_lanesInAll cX1_lanesInAll 3 (some .int) rmX1_lanesInAll G [.ref h0] (wX1 G h0 a0 f0 A0) r (wX1 G h0 a0 f0 A0) := by
  intro res h
  refine ctrI_of (cc := cX1_lanesInAll) (maxL := 3) (ret := (some .int)) (by decide +kernel) rfl (Nat.le_of_ble_eq_true rfl) (fun p e s m below meth c DA C0 hP hD ls hl => ?_)
  have hPD : WD G DA (wX1 G h0 a0 f0 A0) s.heap := ⟨hP, hD⟩
  have hS : va_S DA s.heap s.heap [] := va_S.rf
  have hl : lv_has ls 3 [(0, .ref h0)] := hl
  obtain ⟨hx, hb, hml, hown, hts⟩ := C0.1
  have hK := C0.2.2.2.1
  unfold f1_lanesInAll at h
  refine lv_iconst (v := 0) hx hb dX1_lanesInAll_0 (by decide) ?_
  refine lv_istore_n (lv' := [(1, .int 0), (0, .ref h0)]) hx hb dX1_lanesInAll_1 rfl hl (by decide) rfl (fun ls hl => ?_)
  refine lv_iconst (v := 0) hx hb dX1_lanesInAll_2 (by decide) ?_
  refine lv_istore_n (lv' := [(2, .int 0), (1, .int 0), (0, .ref h0)]) hx hb dX1_lanesInAll_3 rfl hl (by decide) rfl (fun ls hl => ?_)
  exact ww_f1_lanesInAll_l4 C0 NF 0 0 h _ _ _ hPD hS (lv_sub hl [2, 1, 0] rfl)
abbrev rmX1_isBridge : Room := { frames := 4, cells := 0, slots := 0, locals := 91 }
set_option maxRecDepth 100000 in
set_option maxHeartbeats 4000000 in
theorem kt_X1_isBridge (l : Launch) (G : Gp) (h0 : Nat) (a0 : Nat → Nat) (f0 : Nat → Int32) (A0 : Nat → Nat → Int32) (p1 : Int32) (p2 : Int32) : ∀ {r : Int32 × (Nat → Nat → Int32)}, f1_isBridge f0 A0 p1 p2 = some r → CtrI l yX1_isBridge cX1_isBridge 3 (some .boolean) rmX1_isBridge G [.ref h0, .int p1, .int p2] (wX1 G h0 a0 f0 A0) r.1 (wX1 G h0 a0 f0 r.2) := by
  intro res h
  refine ctrI_of (cc := cX1_isBridge) (maxL := 3) (ret := (some .boolean)) (by decide +kernel) rfl (Nat.le_of_ble_eq_true rfl) (fun p e s m below meth c DA C0 hP hD ls hl => ?_)
  have hPD : WD G DA (wX1 G h0 a0 f0 A0) s.heap := ⟨hP, hD⟩
  have hS : va_S DA s.heap s.heap [] := va_S.rf
  have hl : lv_has ls 3 [(0, .ref h0), (1, .int p1), (2, .int p2)] := hl
  obtain ⟨hx, hb, hml, hown, hts⟩ := C0.1
  have hK := C0.2.2.2.1
  unfold f1_isBridge at h
  refine lv_aload_n hx hb dX1_isBridge_0 rfl (lv_at hl 0 rfl) ?_
  refine va_get (D := G.1) (ci := 1) (v := .ref (a0 1)) (C := RX1) (T := TX1) (N := 4) hx hb hts inlX1 hown hK hPD.1 0 rfl rfl 1 (by decide) (hts _ gw_75) (fun _ h9 => h9) rfl dX1_isBridge_1 ?_
  refine lv_iload_n hx hb dX1_isBridge_4 rfl (lv_at hl 1 rfl) ?_
  refine kNI (As := [.ref (a0 1), .int p1]) (rest := []) C0 (kt_X9_at l G (a0 1) 16 (A0 1) p1 (by decide)) gi_U_X9_at (host := "IdleCrimes") (index := 33) (List.mem_of_getElem? (i := 20) rfl) gw_6 gw_7 (n := 2) rfl (by decide +kernel) ⟨rfl, rfl, Nat.le_of_ble_eq_true rfl, Nat.le_of_ble_eq_true rfl⟩ hPD hS [1] [0, 2, 3] [0, 3, 1, 2] (wN := (wX1 G h0 a0 f0 A0)) rfl rfl rfl rfl rfl hl.1 (Nat.le_of_ble_eq_true rfl) dX1_isBridge_5 (fun H locs hPD hS => ?_)
  refine lv_iload_n hx hb dX1_isBridge_8 rfl (lv_at hl 2 rfl) ?_
  refine kNI (As := [.int (f9_at 16 (A0 1) p1), .int p2]) (rest := []) C0 (kt_X9_has l G  (f9_at 16 (A0 1) p1) p2) gi_U_X9_has (host := "IdleCrimes") (index := 29) (List.mem_of_getElem? (i := 9) rfl) gw_6 gw_73 (n := 2) rfl (by decide +kernel) ⟨rfl, rfl, Nat.le_of_ble_eq_true rfl, Nat.le_of_ble_eq_true rfl⟩ hPD hS [] [0, 1, 2, 3] [0, 1, 2, 3] (wN := (wX1 G h0 a0 f0 A0)) rfl rfl rfl rfl rfl hl.1 (Nat.le_of_ble_eq_true rfl) dX1_isBridge_9 (fun H locs hPD hS => ?_)
  refine lv_if_ne (tgt := 17) hx hb dX1_isBridge_12 (by decide) (fun cc1 => ?_) (fun cc1 => ?_)
  · have h := (if_neg cc1).symm.trans h
    refine lv_aload_n hx hb dX1_isBridge_17 rfl (lv_at hl 0 rfl) ?_
    refine lv_iload_n hx hb dX1_isBridge_18 rfl (lv_at hl 1 rfl) ?_
    refine lv_iload_n hx hb dX1_isBridge_19 rfl (lv_at hl 2 rfl) ?_
    obtain ⟨z_1, ez_1, h⟩ := lvl h
    have kc := kt_X1_part l G h0 a0 f0 A0 p1 p2
    rw [← ez_1] at kc
    clear ez_1
    refine kVV (As := [.int p1, .int p2]) (rest := []) C0 (kc) gi_V_X1_70_X1_part (n := 2) rfl (by decide +kernel) rfl ⟨rfl, rfl, Nat.le_of_ble_eq_true rfl, Nat.le_of_ble_eq_true rfl⟩ hPD hS 0 1 rfl rfl rfl [0, 1, 2, 3] [] [0, 1, 2, 3] (wN := (wX1 G h0 a0 f0 z_1)) rfl rfl rfl rfl rfl hl.1 (Nat.le_of_ble_eq_true rfl) dX1_isBridge_20 (fun H locs hPD hS => ?_)
    refine lv_aload_n hx hb dX1_isBridge_23 rfl (lv_at hl 0 rfl) ?_
    refine lv_iload_n hx hb dX1_isBridge_24 rfl (lv_at hl 1 rfl) ?_
    obtain ⟨q_2, hq_2, h⟩ := ob2 h
    refine kVV (As := [.int p1]) (rest := []) C0 (kt_X1_measure l G h0 a0 f0 z_1 p1 hq_2) gi_V_X1_54_X1_measure (n := 1) rfl (by decide +kernel) rfl ⟨rfl, rfl, Nat.le_of_ble_eq_true rfl, Nat.le_of_ble_eq_true rfl⟩ hPD hS 0 1 rfl rfl rfl [0, 1, 2, 3] [] [0, 1, 2, 3] (wN := (wX1 G h0 a0 f0 q_2)) rfl rfl rfl rfl rfl hl.1 (Nat.le_of_ble_eq_true rfl) dX1_isBridge_25 (fun H locs hPD hS => ?_)
    refine lv_aload_n hx hb dX1_isBridge_28 rfl (lv_at hl 0 rfl) ?_
    refine lv_iload_n hx hb dX1_isBridge_29 rfl (lv_at hl 1 rfl) ?_
    refine lv_iload_n hx hb dX1_isBridge_30 rfl (lv_at hl 2 rfl) ?_
    obtain ⟨z_3, ez_3, h⟩ := lvl h
    have kc := kt_X1_join l G h0 a0 f0 q_2 p1 p2
    rw [← ez_3] at kc
    clear ez_3
    refine kVV (As := [.int p1, .int p2]) (rest := []) C0 (kc) gi_V_X1_74_X1_join (n := 2) rfl (by decide +kernel) rfl ⟨rfl, rfl, Nat.le_of_ble_eq_true rfl, Nat.le_of_ble_eq_true rfl⟩ hPD hS 0 1 rfl rfl rfl [0, 1, 2, 3] [] [0, 1, 2, 3] (wN := (wX1 G h0 a0 f0 z_3)) rfl rfl rfl rfl rfl hl.1 (Nat.le_of_ble_eq_true rfl) dX1_isBridge_31 (fun H locs hPD hS => ?_)
    refine lv_aload_n hx hb dX1_isBridge_34 rfl (lv_at hl 0 rfl) ?_
    refine lv_iload_n hx hb dX1_isBridge_35 rfl (lv_at hl 2 rfl) ?_
    refine kVI (As := [.int p2]) (rest := []) C0 (kt_X1_stepsTo l G h0 a0 f0 z_3 p2) gi_V_X1_51_X1_stepsTo (n := 1) rfl (by decide +kernel) rfl ⟨rfl, rfl, Nat.le_of_ble_eq_true rfl, Nat.le_of_ble_eq_true rfl⟩ hPD hS 0 1 rfl rfl rfl [0, 1, 2, 3] [] [0, 1, 2, 3] (wN := (wX1 G h0 a0 f0 z_3)) rfl rfl rfl rfl rfl hl.1 (Nat.le_of_ble_eq_true rfl) dX1_isBridge_36 (fun H locs hPD hS => ?_)
    refine lv_iconst (v := (-1)) hx hb dX1_isBridge_39 (by decide) ?_
    refine lv_icmp_ne (tgt := 47) hx hb dX1_isBridge_40 (by decide) (fun cc1 => ?_) (fun cc1 => ?_)
    · have h := (if_neg cc1).symm.trans h
      refine lv_iconst (v := 0) hx hb dX1_isBridge_47 (by decide) ?_
      obtain rfl := Option.some.inj h
      exact eZ C0 hPD.1 hPD.2 hS rfl rfl dX1_isBridge_48
    · have h := (if_pos cc1).symm.trans h
      refine lv_iconst (v := 1) hx hb dX1_isBridge_43 (by decide) ?_
      refine lv_goto (tgt := 48) hx hb dX1_isBridge_44 (by decide) ?_
      obtain rfl := Option.some.inj h
      exact eZ C0 hPD.1 hPD.2 hS rfl rfl dX1_isBridge_48
  · have h := (if_pos cc1).symm.trans h
    refine lv_iconst (v := 0) hx hb dX1_isBridge_15 (by decide) ?_
    obtain rfl := Option.some.inj h
    exact eZ C0 hPD.1 hPD.2 hS rfl rfl dX1_isBridge_16
abbrev rmX1_bridgesInAll : Room := { frames := 5, cells := 0, slots := 0, locals := 113 }
set_option maxRecDepth 100000 in
set_option maxHeartbeats 4000000 in
theorem ww_f1_bridgesInAll_b14  (C0 : Cx cX1_bridgesInAll 4 (some .int) RX1 p s m args meth c G DA) {h0 : Nat} {a0 : Nat → Nat} {f0 : Nat → Int32}  {k4 : (Nat → Nat → Int32) → Int32 → Int32 → Option (Int32 × (Nat → Nat → Int32))} {k14 : (Nat → Nat → Int32) → Int32 → Int32 → Int32 → Option (Int32 × (Nat → Nat → Int32))} {res : Int32 × (Nat → Nat → Int32)} (hk4 : ∀ (A0 : Nat → Nat → Int32) (l1 : Int32) (l2 : Int32), k4 A0 l1 l2 = some res → ∀ (H : Heap) (locs : List Loc) (ls : Array Slot), WD G DA (wX1 G h0 a0 f0 A0) H → va_S DA s.heap H locs → lv_has ls 4 [(0, .ref h0), (1, .int l1), (2, .int l2)] → W p l e rmX1_bridgesInAll s m args below meth c H locs 0 0 (MQ below (QI G DA res.1 (wX1 G h0 a0 f0 res.2)) args s 0 0 DA) (F0 m 4 ls [])) (hk14 : ∀ (A0 : Nat → Nat → Int32) (l1 : Int32) (l2 : Int32) (l3 : Int32), k14 A0 l1 l2 l3 = some res → ∀ (H : Heap) (locs : List Loc) (ls : Array Slot), WD G DA (wX1 G h0 a0 f0 A0) H → va_S DA s.heap H locs → lv_has ls 4 [(0, .ref h0), (1, .int l1), (2, .int l2), (3, .int l3)] → W p l e rmX1_bridgesInAll s m args below meth c H locs 0 0 (MQ below (QI G DA res.1 (wX1 G h0 a0 f0 res.2)) args s 0 0 DA) (F0 m 14 ls [])) : ∀ (A0 : Nat → Nat → Int32) (l1 : Int32) (l2 : Int32) (l3 : Int32), f1_bridgesInAll_b14 f0 k4 k14 A0 l1 l2 l3 = some res → ∀ (H : Heap) (locs : List Loc) (ls : Array Slot), WD G DA (wX1 G h0 a0 f0 A0) H → va_S DA s.heap H locs → lv_has ls 4 [(0, .ref h0), (1, .int l1), (2, .int l2), (3, .int l3)] → W p l e rmX1_bridgesInAll s m args below meth c H locs 0 0 (MQ below (QI G DA res.1 (wX1 G h0 a0 f0 res.2)) args s 0 0 DA) (F0 m 14 ls []) := by
  obtain ⟨hx, hb, hml, hown, hts⟩ := C0.1
  have hK := C0.2.2.2.1
  intro A0 l1 l2 l3 h _ _ _ hPD hS hl
  unfold f1_bridgesInAll_b14 at h
  refine lv_iload_n hx hb dX1_bridgesInAll_14 rfl (lv_at hl 3 rfl) ?_
  refine lv_bipush (v := 16) hx hb dX1_bridgesInAll_15 (by decide) ?_
  refine lv_icmp_ge (tgt := 38) hx hb dX1_bridgesInAll_17 (by decide) (fun cc1 => ?_) (fun cc1 => ?_)
  · have h := (if_pos cc1).symm.trans h
    refine lv_iinc (v := l2 + 1) (lv' := [(2, .int (l2 + 1)), (0, .ref h0), (1, .int l1), (3, .int l3)]) hx hb dX1_bridgesInAll_38 hl (k := 2) rfl rfl (by decide) rfl (fun ls hl => ?_)
    refine lv_goto (tgt := 4) hx hb dX1_bridgesInAll_41 (by decide) ?_
    exact hk4 A0 l1 (l2 + 1) h _ _ _ hPD hS (lv_sub hl [1, 2, 0] rfl)
  · have h := (if_neg cc1).symm.trans h
    refine lv_aload_n hx hb dX1_bridgesInAll_20 rfl (lv_at hl 0 rfl) ?_
    refine lv_iload_n hx hb dX1_bridgesInAll_21 rfl (lv_at hl 2 rfl) ?_
    refine lv_iload_n hx hb dX1_bridgesInAll_22 rfl (lv_at hl 3 rfl) ?_
    obtain ⟨q_1, hq_1, h⟩ := ob2 h
    refine kVI (As := [.int l2, .int l3]) (rest := []) C0 (kt_X1_isBridge l G h0 a0 f0 A0 l2 l3 hq_1) gi_V_X1_67_X1_isBridge (n := 2) rfl (by decide +kernel) rfl ⟨rfl, rfl, Nat.le_of_ble_eq_true rfl, Nat.le_of_ble_eq_true rfl⟩ hPD hS 0 1 rfl rfl rfl [0, 1, 2, 3] [] [0, 1, 2, 3] (wN := (wX1 G h0 a0 f0 q_1.2)) rfl rfl rfl rfl rfl hl.1 (Nat.le_of_ble_eq_true rfl) dX1_bridgesInAll_23 (fun H locs hPD hS => ?_)
    refine lv_if_eq (tgt := 32) hx hb dX1_bridgesInAll_26 (by decide) (fun cc1 => ?_) (fun cc1 => ?_)
    · have h := (if_pos cc1).symm.trans h
      refine lv_iinc (v := l3 + 1) (lv' := [(3, .int (l3 + 1)), (0, .ref h0), (1, .int l1), (2, .int l2)]) hx hb dX1_bridgesInAll_32 hl (k := 3) rfl rfl (by decide) rfl (fun ls hl => ?_)
      refine lv_goto (tgt := 14) hx hb dX1_bridgesInAll_35 (by decide) ?_
      exact hk14 q_1.2 l1 l2 (l3 + 1) h _ _ _ hPD hS (lv_sub hl [1, 2, 3, 0] rfl)
    · have h := (if_neg cc1).symm.trans h
      refine lv_iinc (v := l1 + 1) (lv' := [(1, .int (l1 + 1)), (0, .ref h0), (2, .int l2), (3, .int l3)]) hx hb dX1_bridgesInAll_29 hl (k := 1) rfl rfl (by decide) rfl (fun ls hl => ?_)
      refine lv_iinc (v := l3 + 1) (lv' := [(3, .int (l3 + 1)), (1, .int (l1 + 1)), (0, .ref h0), (2, .int l2)]) hx hb dX1_bridgesInAll_32 hl (k := 3) rfl rfl (by decide) rfl (fun ls hl => ?_)
      refine lv_goto (tgt := 14) hx hb dX1_bridgesInAll_35 (by decide) ?_
      exact hk14 q_1.2 (l1 + 1) l2 (l3 + 1) h _ _ _ hPD hS (lv_sub hl [2, 1, 3, 0] rfl)
set_option maxRecDepth 100000 in
set_option maxHeartbeats 4000000 in
theorem ww_f1_bridgesInAll_l14  (C0 : Cx cX1_bridgesInAll 4 (some .int) RX1 p s m args meth c G DA) {h0 : Nat} {a0 : Nat → Nat} {f0 : Nat → Int32}  {k4 : (Nat → Nat → Int32) → Int32 → Int32 → Option (Int32 × (Nat → Nat → Int32))} {res : Int32 × (Nat → Nat → Int32)} (hk4 : ∀ (A0 : Nat → Nat → Int32) (l1 : Int32) (l2 : Int32), k4 A0 l1 l2 = some res → ∀ (H : Heap) (locs : List Loc) (ls : Array Slot), WD G DA (wX1 G h0 a0 f0 A0) H → va_S DA s.heap H locs → lv_has ls 4 [(0, .ref h0), (1, .int l1), (2, .int l2)] → W p l e rmX1_bridgesInAll s m args below meth c H locs 0 0 (MQ below (QI G DA res.1 (wX1 G h0 a0 f0 res.2)) args s 0 0 DA) (F0 m 4 ls [])) : ∀ (n : Nat) (A0 : Nat → Nat → Int32) (l1 : Int32) (l2 : Int32) (l3 : Int32), f1_bridgesInAll_l14 f0 k4 n A0 l1 l2 l3 = some res → ∀ (H : Heap) (locs : List Loc) (ls : Array Slot), WD G DA (wX1 G h0 a0 f0 A0) H → va_S DA s.heap H locs → lv_has ls 4 [(0, .ref h0), (1, .int l1), (2, .int l2), (3, .int l3)] → W p l e rmX1_bridgesInAll s m args below meth c H locs 0 0 (MQ below (QI G DA res.1 (wX1 G h0 a0 f0 res.2)) args s 0 0 DA) (F0 m 14 ls []) := by
  intro n
  induction n with
  | zero => intro A0 l1 l2 l3 h; cases h
  | succ n ih => intro A0 l1 l2 l3 h; exact ww_f1_bridgesInAll_b14 C0 hk4 ih A0 l1 l2 l3 h
set_option maxRecDepth 100000 in
set_option maxHeartbeats 4000000 in
theorem ww_f1_bridgesInAll_b4  (C0 : Cx cX1_bridgesInAll 4 (some .int) RX1 p s m args meth c G DA) {h0 : Nat} {a0 : Nat → Nat} {f0 : Nat → Int32}  {k4 : (Nat → Nat → Int32) → Int32 → Int32 → Option (Int32 × (Nat → Nat → Int32))} {res : Int32 × (Nat → Nat → Int32)}  (hk4 : ∀ (A0 : Nat → Nat → Int32) (l1 : Int32) (l2 : Int32), k4 A0 l1 l2 = some res → ∀ (H : Heap) (locs : List Loc) (ls : Array Slot), WD G DA (wX1 G h0 a0 f0 A0) H → va_S DA s.heap H locs → lv_has ls 4 [(0, .ref h0), (1, .int l1), (2, .int l2)] → W p l e rmX1_bridgesInAll s m args below meth c H locs 0 0 (MQ below (QI G DA res.1 (wX1 G h0 a0 f0 res.2)) args s 0 0 DA) (F0 m 4 ls [])) : ∀ (A0 : Nat → Nat → Int32) (l1 : Int32) (l2 : Int32), f1_bridgesInAll_b4 f0  k4 A0 l1 l2 = some res → ∀ (H : Heap) (locs : List Loc) (ls : Array Slot), WD G DA (wX1 G h0 a0 f0 A0) H → va_S DA s.heap H locs → lv_has ls 4 [(0, .ref h0), (1, .int l1), (2, .int l2)] → W p l e rmX1_bridgesInAll s m args below meth c H locs 0 0 (MQ below (QI G DA res.1 (wX1 G h0 a0 f0 res.2)) args s 0 0 DA) (F0 m 4 ls []) := by
  obtain ⟨hx, hb, hml, hown, hts⟩ := C0.1
  have hK := C0.2.2.2.1
  intro A0 l1 l2 h _ _ _ hPD hS hl
  unfold f1_bridgesInAll_b4 at h
  refine lv_iload_n hx hb dX1_bridgesInAll_4 rfl (lv_at hl 2 rfl) ?_
  refine lv_bipush (v := 16) hx hb dX1_bridgesInAll_5 (by decide) ?_
  refine lv_icmp_ge (tgt := 44) hx hb dX1_bridgesInAll_7 (by decide) (fun cc1 => ?_) (fun cc1 => ?_)
  · have h := (if_pos cc1).symm.trans h
    refine lv_iload_n hx hb dX1_bridgesInAll_44 rfl (lv_at hl 1 rfl) ?_
    obtain rfl := Option.some.inj h
    exact eI C0 hPD.1 hPD.2 hS rfl dX1_bridgesInAll_45
  · have h := (if_neg cc1).symm.trans h
    refine lv_iload_n hx hb dX1_bridgesInAll_10 rfl (lv_at hl 2 rfl) ?_
    refine lv_iconst (v := 1) hx hb dX1_bridgesInAll_11 (by decide) ?_
    refine lv_iadd hx hb dX1_bridgesInAll_12 ?_
    refine lv_istore_n (lv' := [(3, .int (l2 + 1)), (0, .ref h0), (1, .int l1), (2, .int l2)]) hx hb dX1_bridgesInAll_13 rfl hl (by decide) rfl (fun ls hl => ?_)
    exact ww_f1_bridgesInAll_l14 C0 hk4 NF A0 l1 l2 (l2 + 1) h _ _ _ hPD hS (lv_sub hl [1, 2, 3, 0] rfl)
set_option maxRecDepth 100000 in
set_option maxHeartbeats 4000000 in
theorem ww_f1_bridgesInAll_l4  (C0 : Cx cX1_bridgesInAll 4 (some .int) RX1 p s m args meth c G DA) {h0 : Nat} {a0 : Nat → Nat} {f0 : Nat → Int32}   {res : Int32 × (Nat → Nat → Int32)}  : ∀ (n : Nat) (A0 : Nat → Nat → Int32) (l1 : Int32) (l2 : Int32), f1_bridgesInAll_l4 f0  n A0 l1 l2 = some res → ∀ (H : Heap) (locs : List Loc) (ls : Array Slot), WD G DA (wX1 G h0 a0 f0 A0) H → va_S DA s.heap H locs → lv_has ls 4 [(0, .ref h0), (1, .int l1), (2, .int l2)] → W p l e rmX1_bridgesInAll s m args below meth c H locs 0 0 (MQ below (QI G DA res.1 (wX1 G h0 a0 f0 res.2)) args s 0 0 DA) (F0 m 4 ls []) := by
  intro n
  induction n with
  | zero => intro A0 l1 l2 h; cases h
  | succ n ih => intro A0 l1 l2 h; exact ww_f1_bridgesInAll_b4 C0  ih A0 l1 l2 h
set_option maxRecDepth 100000 in
set_option maxHeartbeats 4000000 in
theorem kt_X1_bridgesInAll (l : Launch) (G : Gp) (h0 : Nat) (a0 : Nat → Nat) (f0 : Nat → Int32) (A0 : Nat → Nat → Int32) : ∀ {r : Int32 × (Nat → Nat → Int32)}, f1_bridgesInAll f0 A0 = some r → CtrI l yX1_bridgesInAll cX1_bridgesInAll 4 (some .int) rmX1_bridgesInAll G [.ref h0] (wX1 G h0 a0 f0 A0) r.1 (wX1 G h0 a0 f0 r.2) := by
  intro res h
  refine ctrI_of (cc := cX1_bridgesInAll) (maxL := 4) (ret := (some .int)) (by decide +kernel) rfl (Nat.le_of_ble_eq_true rfl) (fun p e s m below meth c DA C0 hP hD ls hl => ?_)
  have hPD : WD G DA (wX1 G h0 a0 f0 A0) s.heap := ⟨hP, hD⟩
  have hS : va_S DA s.heap s.heap [] := va_S.rf
  have hl : lv_has ls 4 [(0, .ref h0)] := hl
  obtain ⟨hx, hb, hml, hown, hts⟩ := C0.1
  have hK := C0.2.2.2.1
  unfold f1_bridgesInAll at h
  refine lv_iconst (v := 0) hx hb dX1_bridgesInAll_0 (by decide) ?_
  refine lv_istore_n (lv' := [(1, .int 0), (0, .ref h0)]) hx hb dX1_bridgesInAll_1 rfl hl (by decide) rfl (fun ls hl => ?_)
  refine lv_iconst (v := 0) hx hb dX1_bridgesInAll_2 (by decide) ?_
  refine lv_istore_n (lv' := [(2, .int 0), (1, .int 0), (0, .ref h0)]) hx hb dX1_bridgesInAll_3 rfl hl (by decide) rfl (fun ls hl => ?_)
  exact ww_f1_bridgesInAll_l4 C0 NF A0 0 0 h _ _ _ hPD hS (lv_sub hl [2, 1, 0] rfl)
abbrev rmX1_firstBridge : Room := { frames := 5, cells := 0, slots := 0, locals := 113 }
set_option maxRecDepth 100000 in
set_option maxHeartbeats 4000000 in
theorem ww_f1_firstBridge_b12  (C0 : Cx cX1_firstBridge 3 (some .int) RX1 p s m args meth c G DA) {h0 : Nat} {a0 : Nat → Nat} {f0 : Nat → Int32}  {k2 : (Nat → Nat → Int32) → Int32 → Option (Int32 × (Nat → Nat → Int32))} {k12 : (Nat → Nat → Int32) → Int32 → Int32 → Option (Int32 × (Nat → Nat → Int32))} {res : Int32 × (Nat → Nat → Int32)} (hk2 : ∀ (A0 : Nat → Nat → Int32) (l1 : Int32), k2 A0 l1 = some res → ∀ (H : Heap) (locs : List Loc) (ls : Array Slot), WD G DA (wX1 G h0 a0 f0 A0) H → va_S DA s.heap H locs → lv_has ls 3 [(0, .ref h0), (1, .int l1)] → W p l e rmX1_firstBridge s m args below meth c H locs 0 0 (MQ below (QI G DA res.1 (wX1 G h0 a0 f0 res.2)) args s 0 0 DA) (F0 m 2 ls [])) (hk12 : ∀ (A0 : Nat → Nat → Int32) (l1 : Int32) (l2 : Int32), k12 A0 l1 l2 = some res → ∀ (H : Heap) (locs : List Loc) (ls : Array Slot), WD G DA (wX1 G h0 a0 f0 A0) H → va_S DA s.heap H locs → lv_has ls 3 [(0, .ref h0), (1, .int l1), (2, .int l2)] → W p l e rmX1_firstBridge s m args below meth c H locs 0 0 (MQ below (QI G DA res.1 (wX1 G h0 a0 f0 res.2)) args s 0 0 DA) (F0 m 12 ls [])) : ∀ (A0 : Nat → Nat → Int32) (l1 : Int32) (l2 : Int32), f1_firstBridge_b12 f0 k2 k12 A0 l1 l2 = some res → ∀ (H : Heap) (locs : List Loc) (ls : Array Slot), WD G DA (wX1 G h0 a0 f0 A0) H → va_S DA s.heap H locs → lv_has ls 3 [(0, .ref h0), (1, .int l1), (2, .int l2)] → W p l e rmX1_firstBridge s m args below meth c H locs 0 0 (MQ below (QI G DA res.1 (wX1 G h0 a0 f0 res.2)) args s 0 0 DA) (F0 m 12 ls []) := by
  obtain ⟨hx, hb, hml, hown, hts⟩ := C0.1
  have hK := C0.2.2.2.1
  intro A0 l1 l2 h _ _ _ hPD hS hl
  unfold f1_firstBridge_b12 at h
  refine lv_iload_n hx hb dX1_firstBridge_12 rfl (lv_at hl 2 rfl) ?_
  refine lv_bipush (v := 16) hx hb dX1_firstBridge_13 (by decide) ?_
  refine lv_icmp_ge (tgt := 40) hx hb dX1_firstBridge_15 (by decide) (fun cc1 => ?_) (fun cc1 => ?_)
  · have h := (if_pos cc1).symm.trans h
    refine lv_iinc (v := l1 + 1) (lv' := [(1, .int (l1 + 1)), (0, .ref h0), (2, .int l2)]) hx hb dX1_firstBridge_40 hl (k := 1) rfl rfl (by decide) rfl (fun ls hl => ?_)
    refine lv_goto (tgt := 2) hx hb dX1_firstBridge_43 (by decide) ?_
    exact hk2 A0 (l1 + 1) h _ _ _ hPD hS (lv_sub hl [1, 0] rfl)
  · have h := (if_neg cc1).symm.trans h
    refine lv_aload_n hx hb dX1_firstBridge_18 rfl (lv_at hl 0 rfl) ?_
    refine lv_iload_n hx hb dX1_firstBridge_19 rfl (lv_at hl 1 rfl) ?_
    refine lv_iload_n hx hb dX1_firstBridge_20 rfl (lv_at hl 2 rfl) ?_
    obtain ⟨q_1, hq_1, h⟩ := ob2 h
    refine kVI (As := [.int l1, .int l2]) (rest := []) C0 (kt_X1_isBridge l G h0 a0 f0 A0 l1 l2 hq_1) gi_V_X1_67_X1_isBridge (n := 2) rfl (by decide +kernel) rfl ⟨rfl, rfl, Nat.le_of_ble_eq_true rfl, Nat.le_of_ble_eq_true rfl⟩ hPD hS 0 1 rfl rfl rfl [0, 1, 2, 3] [] [0, 1, 2, 3] (wN := (wX1 G h0 a0 f0 q_1.2)) rfl rfl rfl rfl rfl hl.1 (Nat.le_of_ble_eq_true rfl) dX1_firstBridge_21 (fun H locs hPD hS => ?_)
    refine lv_if_eq (tgt := 34) hx hb dX1_firstBridge_24 (by decide) (fun cc1 => ?_) (fun cc1 => ?_)
    · have h := (if_pos cc1).symm.trans h
      refine lv_iinc (v := l2 + 1) (lv' := [(2, .int (l2 + 1)), (0, .ref h0), (1, .int l1)]) hx hb dX1_firstBridge_34 hl (k := 2) rfl rfl (by decide) rfl (fun ls hl => ?_)
      refine lv_goto (tgt := 12) hx hb dX1_firstBridge_37 (by decide) ?_
      exact hk12 q_1.2 l1 (l2 + 1) h _ _ _ hPD hS (lv_sub hl [1, 2, 0] rfl)
    · have h := (if_neg cc1).symm.trans h
      refine lv_iload_n hx hb dX1_firstBridge_27 rfl (lv_at hl 1 rfl) ?_
      refine lv_bipush (v := 16) hx hb dX1_firstBridge_28 (by decide) ?_
      refine lv_imul hx hb dX1_firstBridge_30 ?_
      refine lv_iload_n hx hb dX1_firstBridge_31 rfl (lv_at hl 2 rfl) ?_
      refine lv_iadd hx hb dX1_firstBridge_32 ?_
      obtain rfl := Option.some.inj h
      exact eI C0 hPD.1 hPD.2 hS rfl dX1_firstBridge_33
set_option maxRecDepth 100000 in
set_option maxHeartbeats 4000000 in
theorem ww_f1_firstBridge_l12  (C0 : Cx cX1_firstBridge 3 (some .int) RX1 p s m args meth c G DA) {h0 : Nat} {a0 : Nat → Nat} {f0 : Nat → Int32}  {k2 : (Nat → Nat → Int32) → Int32 → Option (Int32 × (Nat → Nat → Int32))} {res : Int32 × (Nat → Nat → Int32)} (hk2 : ∀ (A0 : Nat → Nat → Int32) (l1 : Int32), k2 A0 l1 = some res → ∀ (H : Heap) (locs : List Loc) (ls : Array Slot), WD G DA (wX1 G h0 a0 f0 A0) H → va_S DA s.heap H locs → lv_has ls 3 [(0, .ref h0), (1, .int l1)] → W p l e rmX1_firstBridge s m args below meth c H locs 0 0 (MQ below (QI G DA res.1 (wX1 G h0 a0 f0 res.2)) args s 0 0 DA) (F0 m 2 ls [])) : ∀ (n : Nat) (A0 : Nat → Nat → Int32) (l1 : Int32) (l2 : Int32), f1_firstBridge_l12 f0 k2 n A0 l1 l2 = some res → ∀ (H : Heap) (locs : List Loc) (ls : Array Slot), WD G DA (wX1 G h0 a0 f0 A0) H → va_S DA s.heap H locs → lv_has ls 3 [(0, .ref h0), (1, .int l1), (2, .int l2)] → W p l e rmX1_firstBridge s m args below meth c H locs 0 0 (MQ below (QI G DA res.1 (wX1 G h0 a0 f0 res.2)) args s 0 0 DA) (F0 m 12 ls []) := by
  intro n
  induction n with
  | zero => intro A0 l1 l2 h; cases h
  | succ n ih => intro A0 l1 l2 h; exact ww_f1_firstBridge_b12 C0 hk2 ih A0 l1 l2 h
set_option maxRecDepth 100000 in
set_option maxHeartbeats 4000000 in
theorem ww_f1_firstBridge_b2  (C0 : Cx cX1_firstBridge 3 (some .int) RX1 p s m args meth c G DA) {h0 : Nat} {a0 : Nat → Nat} {f0 : Nat → Int32}  {k2 : (Nat → Nat → Int32) → Int32 → Option (Int32 × (Nat → Nat → Int32))} {res : Int32 × (Nat → Nat → Int32)}  (hk2 : ∀ (A0 : Nat → Nat → Int32) (l1 : Int32), k2 A0 l1 = some res → ∀ (H : Heap) (locs : List Loc) (ls : Array Slot), WD G DA (wX1 G h0 a0 f0 A0) H → va_S DA s.heap H locs → lv_has ls 3 [(0, .ref h0), (1, .int l1)] → W p l e rmX1_firstBridge s m args below meth c H locs 0 0 (MQ below (QI G DA res.1 (wX1 G h0 a0 f0 res.2)) args s 0 0 DA) (F0 m 2 ls [])) : ∀ (A0 : Nat → Nat → Int32) (l1 : Int32), f1_firstBridge_b2 f0  k2 A0 l1 = some res → ∀ (H : Heap) (locs : List Loc) (ls : Array Slot), WD G DA (wX1 G h0 a0 f0 A0) H → va_S DA s.heap H locs → lv_has ls 3 [(0, .ref h0), (1, .int l1)] → W p l e rmX1_firstBridge s m args below meth c H locs 0 0 (MQ below (QI G DA res.1 (wX1 G h0 a0 f0 res.2)) args s 0 0 DA) (F0 m 2 ls []) := by
  obtain ⟨hx, hb, hml, hown, hts⟩ := C0.1
  have hK := C0.2.2.2.1
  intro A0 l1 h _ _ _ hPD hS hl
  unfold f1_firstBridge_b2 at h
  refine lv_iload_n hx hb dX1_firstBridge_2 rfl (lv_at hl 1 rfl) ?_
  refine lv_bipush (v := 16) hx hb dX1_firstBridge_3 (by decide) ?_
  refine lv_icmp_ge (tgt := 46) hx hb dX1_firstBridge_5 (by decide) (fun cc1 => ?_) (fun cc1 => ?_)
  · have h := (if_pos cc1).symm.trans h
    refine lv_iconst (v := (-1)) hx hb dX1_firstBridge_46 (by decide) ?_
    obtain rfl := Option.some.inj h
    exact eI C0 hPD.1 hPD.2 hS rfl dX1_firstBridge_47
  · have h := (if_neg cc1).symm.trans h
    refine lv_iload_n hx hb dX1_firstBridge_8 rfl (lv_at hl 1 rfl) ?_
    refine lv_iconst (v := 1) hx hb dX1_firstBridge_9 (by decide) ?_
    refine lv_iadd hx hb dX1_firstBridge_10 ?_
    refine lv_istore_n (lv' := [(2, .int (l1 + 1)), (0, .ref h0), (1, .int l1)]) hx hb dX1_firstBridge_11 rfl hl (by decide) rfl (fun ls hl => ?_)
    exact ww_f1_firstBridge_l12 C0 hk2 NF A0 l1 (l1 + 1) h _ _ _ hPD hS (lv_sub hl [1, 2, 0] rfl)
set_option maxRecDepth 100000 in
set_option maxHeartbeats 4000000 in
theorem ww_f1_firstBridge_l2  (C0 : Cx cX1_firstBridge 3 (some .int) RX1 p s m args meth c G DA) {h0 : Nat} {a0 : Nat → Nat} {f0 : Nat → Int32}   {res : Int32 × (Nat → Nat → Int32)}  : ∀ (n : Nat) (A0 : Nat → Nat → Int32) (l1 : Int32), f1_firstBridge_l2 f0  n A0 l1 = some res → ∀ (H : Heap) (locs : List Loc) (ls : Array Slot), WD G DA (wX1 G h0 a0 f0 A0) H → va_S DA s.heap H locs → lv_has ls 3 [(0, .ref h0), (1, .int l1)] → W p l e rmX1_firstBridge s m args below meth c H locs 0 0 (MQ below (QI G DA res.1 (wX1 G h0 a0 f0 res.2)) args s 0 0 DA) (F0 m 2 ls []) := by
  intro n
  induction n with
  | zero => intro A0 l1 h; cases h
  | succ n ih => intro A0 l1 h; exact ww_f1_firstBridge_b2 C0  ih A0 l1 h
set_option maxRecDepth 100000 in
set_option maxHeartbeats 4000000 in
theorem kt_X1_firstBridge (l : Launch) (G : Gp) (h0 : Nat) (a0 : Nat → Nat) (f0 : Nat → Int32) (A0 : Nat → Nat → Int32) : ∀ {r : Int32 × (Nat → Nat → Int32)}, f1_firstBridge f0 A0 = some r → CtrI l yX1_firstBridge cX1_firstBridge 3 (some .int) rmX1_firstBridge G [.ref h0] (wX1 G h0 a0 f0 A0) r.1 (wX1 G h0 a0 f0 r.2) := by
  intro res h
  refine ctrI_of (cc := cX1_firstBridge) (maxL := 3) (ret := (some .int)) (by decide +kernel) rfl (Nat.le_of_ble_eq_true rfl) (fun p e s m below meth c DA C0 hP hD ls hl => ?_)
  have hPD : WD G DA (wX1 G h0 a0 f0 A0) s.heap := ⟨hP, hD⟩
  have hS : va_S DA s.heap s.heap [] := va_S.rf
  have hl : lv_has ls 3 [(0, .ref h0)] := hl
  obtain ⟨hx, hb, hml, hown, hts⟩ := C0.1
  have hK := C0.2.2.2.1
  unfold f1_firstBridge at h
  refine lv_iconst (v := 0) hx hb dX1_firstBridge_0 (by decide) ?_
  refine lv_istore_n (lv' := [(1, .int 0), (0, .ref h0)]) hx hb dX1_firstBridge_1 rfl hl (by decide) rfl (fun ls hl => ?_)
  exact ww_f1_firstBridge_l2 C0 NF A0 0 h _ _ _ hPD hS (lv_sub hl [1, 0] rfl)
abbrev rmX9_lowestOf : Room := { frames := 2, cells := 0, slots := 0, locals := 43 }
set_option maxRecDepth 100000 in
set_option maxHeartbeats 4000000 in
theorem ww_f9_lowestOf_b2  (C0 : Cx cX9_lowestOf 2 (some .int) RX9 p s m args meth c G DA) {p0 : Int32}  {k2 : Int32 → Option (Int32)} {res : Int32}  (hk2 : ∀ (l1 : Int32), k2 l1 = some res → ∀ (H : Heap) (locs : List Loc) (ls : Array Slot), WD G DA ([] : va_W) H → va_S DA s.heap H locs → lv_has ls 2 [(0, .int p0), (1, .int l1)] → W p l e rmX9_lowestOf s m args below meth c H locs 0 0 (MQ below (QI G DA res ([] : va_W)) args s 0 0 DA) (F0 m 2 ls [])) : ∀ (l1 : Int32), f9_lowestOf_b2 p0  k2 l1 = some res → ∀ (H : Heap) (locs : List Loc) (ls : Array Slot), WD G DA ([] : va_W) H → va_S DA s.heap H locs → lv_has ls 2 [(0, .int p0), (1, .int l1)] → W p l e rmX9_lowestOf s m args below meth c H locs 0 0 (MQ below (QI G DA res ([] : va_W)) args s 0 0 DA) (F0 m 2 ls []) := by
  obtain ⟨hx, hb, hml, hown, hts⟩ := C0.1
  have hK := C0.2.2.2.1
  intro l1 h _ _ _ hPD hS hl
  unfold f9_lowestOf_b2 at h
  refine lv_iload_n hx hb dX9_lowestOf_2 rfl (lv_at hl 1 rfl) ?_
  refine lv_bipush (v := 31) hx hb dX9_lowestOf_3 (by decide) ?_
  refine lv_icmp_ge (tgt := 22) hx hb dX9_lowestOf_5 (by decide) (fun cc1 => ?_) (fun cc1 => ?_)
  · have h := (if_pos cc1).symm.trans h
    refine lv_iload_n hx hb dX9_lowestOf_22 rfl (lv_at hl 1 rfl) ?_
    obtain rfl := Option.some.inj h
    exact eI C0 hPD.1 hPD.2 hS rfl dX9_lowestOf_23
  · have h := (if_neg cc1).symm.trans h
    refine lv_iload_n hx hb dX9_lowestOf_8 rfl (lv_at hl 0 rfl) ?_
    refine lv_iload_n hx hb dX9_lowestOf_9 rfl (lv_at hl 1 rfl) ?_
    refine kSI (As := [.int p0, .int l1]) (rest := []) C0 (kt_X9_has l G  p0 l1) gi_S_X9_290_X9_has (n := 2) rfl (by decide +kernel) ⟨rfl, rfl, Nat.le_of_ble_eq_true rfl, Nat.le_of_ble_eq_true rfl⟩ hPD hS [] [] [] (wN := ([] : va_W)) rfl rfl rfl rfl rfl hl.1 (Nat.le_of_ble_eq_true rfl) dX9_lowestOf_10 (fun H locs hPD hS => ?_)
    refine lv_if_ne (tgt := 22) hx hb dX9_lowestOf_13 (by decide) (fun cc1 => ?_) (fun cc1 => ?_)
    · have h := (if_neg cc1).symm.trans h
      refine lv_iload_n hx hb dX9_lowestOf_22 rfl (lv_at hl 1 rfl) ?_
      obtain rfl := Option.some.inj h
      exact eI C0 hPD.1 hPD.2 hS rfl dX9_lowestOf_23
    · have h := (if_pos cc1).symm.trans h
      refine lv_iinc (v := l1 + 1) (lv' := [(1, .int (l1 + 1)), (0, .int p0)]) hx hb dX9_lowestOf_16 hl (k := 1) rfl rfl (by decide) rfl (fun ls hl => ?_)
      refine lv_goto (tgt := 2) hx hb dX9_lowestOf_19 (by decide) ?_
      exact hk2 (l1 + 1) h _ _ _ hPD hS (lv_sub hl [1, 0] rfl)
set_option maxRecDepth 100000 in
set_option maxHeartbeats 4000000 in
theorem ww_f9_lowestOf_l2  (C0 : Cx cX9_lowestOf 2 (some .int) RX9 p s m args meth c G DA) {p0 : Int32}   {res : Int32}  : ∀ (n : Nat) (l1 : Int32), f9_lowestOf_l2 p0  n l1 = some res → ∀ (H : Heap) (locs : List Loc) (ls : Array Slot), WD G DA ([] : va_W) H → va_S DA s.heap H locs → lv_has ls 2 [(0, .int p0), (1, .int l1)] → W p l e rmX9_lowestOf s m args below meth c H locs 0 0 (MQ below (QI G DA res ([] : va_W)) args s 0 0 DA) (F0 m 2 ls []) := by
  intro n
  induction n with
  | zero => intro l1 h; cases h
  | succ n ih => intro l1 h; exact ww_f9_lowestOf_b2 C0  ih l1 h
set_option maxRecDepth 100000 in
set_option maxHeartbeats 4000000 in
theorem kt_X9_lowestOf (l : Launch) (G : Gp) (p0 : Int32) : ∀ {r : Int32}, f9_lowestOf p0 = some r → CtrI l yX9_lowestOf cX9_lowestOf 2 (some .int) rmX9_lowestOf G [.int p0] ([] : va_W) r ([] : va_W) := by
  intro res h
  refine ctrI_of (cc := cX9_lowestOf) (maxL := 2) (ret := (some .int)) (by decide +kernel) rfl (Nat.le_of_ble_eq_true rfl) (fun p e s m below meth c DA C0 hP hD ls hl => ?_)
  have hPD : WD G DA ([] : va_W) s.heap := ⟨hP, hD⟩
  have hS : va_S DA s.heap s.heap [] := va_S.rf
  have hl : lv_has ls 2 [(0, .int p0)] := hl
  obtain ⟨hx, hb, hml, hown, hts⟩ := C0.1
  have hK := C0.2.2.2.1
  unfold f9_lowestOf at h
  refine lv_iconst (v := 0) hx hb dX9_lowestOf_0 (by decide) ?_
  refine lv_istore_n (lv' := [(1, .int 0), (0, .int p0)]) hx hb dX9_lowestOf_1 rfl hl (by decide) rfl (fun ls hl => ?_)
  exact ww_f9_lowestOf_l2 C0 NF 0 h _ _ _ hPD hS (lv_sub hl [1, 0] rfl)
abbrev rmGX1_leastPosts (d : Nat) : Room := { frames := d + 3, cells := 0, slots := 0, locals := 27 * d + 64 }
set_option maxRecDepth 100000 in
set_option maxHeartbeats 4000000 in
theorem ww_f1_leastPosts_b28 {d : Nat} {rec : (Nat → Int32) → (Nat → Nat → Int32) → Int32 → Int32 → Int32 → Option (Int32)} (hrec0 : ∀ (l : Launch) (G : Gp) (h0 : Nat) (a0 : Nat → Nat) (f0 : Nat → Int32) (A0 : Nat → Nat → Int32) (p1 : Int32) (p2 : Int32) (p3 : Int32), ∀ {r : Int32}, rec f0 A0 p1 p2 p3 = some r → CtrI l yX1_leastPosts cX1_leastPosts 8 (some .int) (rmGX1_leastPosts d) G [.ref h0, .int p1, .int p2, .int p3] (wX1 G h0 a0 f0 A0) r (wX1 G h0 a0 f0 A0)) (hdd : True)  (C0 : Cx cX1_leastPosts 8 (some .int) RX1 p s m args meth c G DA) {h0 : Nat} {a0 : Nat → Nat} {f0 : Nat → Int32} {A0 : Nat → Nat → Int32} {p1 : Int32} {p2 : Int32} {p3 : Int32}  {k28 : Int32 → Int32 → Int32 → Option (Int32)} {res : Int32}  (hk28 : ∀ (l4 : Int32) (l5 : Int32) (l6 : Int32), k28 l4 l5 l6 = some res → ∀ (H : Heap) (locs : List Loc) (ls : Array Slot), WD G DA (wX1 G h0 a0 f0 A0) H → va_S DA s.heap H locs → lv_has ls 8 [(0, .ref h0), (1, .int p1), (2, .int p2), (3, .int p3), (4, .int l4), (5, .int l5), (6, .int l6)] → W p l e (rmGX1_leastPosts (d + 1)) s m args below meth c H locs 0 0 (MQ below (QI G DA res (wX1 G h0 a0 f0 A0)) args s 0 0 DA) (F0 m 28 ls [])) : ∀ (l4 : Int32) (l5 : Int32) (l6 : Int32), f1_leastPosts_b28 rec f0 A0 p1 p2 p3  k28 l4 l5 l6 = some res → ∀ (H : Heap) (locs : List Loc) (ls : Array Slot), WD G DA (wX1 G h0 a0 f0 A0) H → va_S DA s.heap H locs → lv_has ls 8 [(0, .ref h0), (1, .int p1), (2, .int p2), (3, .int p3), (4, .int l4), (5, .int l5), (6, .int l6)] → W p l e (rmGX1_leastPosts (d + 1)) s m args below meth c H locs 0 0 (MQ below (QI G DA res (wX1 G h0 a0 f0 A0)) args s 0 0 DA) (F0 m 28 ls []) := by
  obtain ⟨hx, hb, hml, hown, hts⟩ := C0.1
  have hK := C0.2.2.2.1
  intro l4 l5 l6 h _ _ _ hPD hS hl
  unfold f1_leastPosts_b28 at h
  refine lv_iload hx hb dX1_leastPosts_28 (lv_at hl 6 rfl) ?_
  refine lv_bipush (v := 16) hx hb dX1_leastPosts_30 (by decide) ?_
  refine lv_icmp_ge (tgt := 99) hx hb dX1_leastPosts_32 (by decide) (fun cc1 => ?_) (fun cc1 => ?_)
  · have h := (if_pos cc1).symm.trans h
    refine lv_iload hx hb dX1_leastPosts_99 (lv_at hl 5 rfl) ?_
    obtain rfl := Option.some.inj h
    exact eI C0 hPD.1 hPD.2 hS rfl dX1_leastPosts_101
  · have h := (if_neg cc1).symm.trans h
    refine lv_iload hx hb dX1_leastPosts_35 (lv_at hl 4 rfl) ?_
    refine lv_iload hx hb dX1_leastPosts_37 (lv_at hl 6 rfl) ?_
    refine kNI (As := [.int l4, .int l6]) (rest := []) C0 (kt_X9_has l G  l4 l6) gi_U_X9_has (host := "IdleCrimes") (index := 29) (List.mem_of_getElem? (i := 9) rfl) gw_6 gw_73 (n := 2) rfl (by decide +kernel) ⟨rfl, rfl, by simp only [rmGX1_leastPosts, rmX9_has]; omega, by simp only [rmGX1_leastPosts, rmX9_has]; omega⟩ hPD hS [] [0, 1, 2, 3] [0, 1, 2, 3] (wN := (wX1 G h0 a0 f0 A0)) rfl rfl rfl rfl rfl hl.1 (Nat.le_of_ble_eq_true rfl) dX1_leastPosts_39 (fun H locs hPD hS => ?_)
    refine lv_if_eq (tgt := 93) hx hb dX1_leastPosts_42 (by decide) (fun cc1 => ?_) (fun cc1 => ?_)
    · have h := (if_pos cc1).symm.trans h
      refine lv_iinc (v := l6 + 1) (lv' := [(6, .int (l6 + 1)), (0, .ref h0), (1, .int p1), (2, .int p2), (3, .int p3), (4, .int l4), (5, .int l5)]) hx hb dX1_leastPosts_93 hl (k := 6) rfl rfl (by decide) rfl (fun ls hl => ?_)
      refine lv_goto (tgt := 28) hx hb dX1_leastPosts_96 (by decide) ?_
      exact hk28 l4 l5 (l6 + 1) h _ _ _ hPD hS (lv_sub hl [1, 2, 3, 4, 5, 6, 0] rfl)
    · have h := (if_neg cc1).symm.trans h
      refine lv_aload_n hx hb dX1_leastPosts_45 rfl (lv_at hl 0 rfl) ?_
      refine lv_iload_n hx hb dX1_leastPosts_46 rfl (lv_at hl 1 rfl) ?_
      refine lv_iconst (v := 1) hx hb dX1_leastPosts_47 (by decide) ?_
      refine lv_iload hx hb dX1_leastPosts_48 (lv_at hl 6 rfl) ?_
      refine lv_ishl hx hb dX1_leastPosts_50 ?_
      refine lv_ior hx hb dX1_leastPosts_51 ?_
      refine lv_iload_n hx hb dX1_leastPosts_52 rfl (lv_at hl 2 rfl) ?_
      refine lv_aload_n hx hb dX1_leastPosts_53 rfl (lv_at hl 0 rfl) ?_
      refine lv_iload hx hb dX1_leastPosts_54 (lv_at hl 6 rfl) ?_
      refine kVI (As := [.int l6]) (rest := [.int p2, .int (p1 ||| (shl 1 l6)), .ref h0]) C0 (kt_X1_around l G h0 a0 f0 A0 l6) gi_V_X1_41_X1_around (n := 1) rfl (by decide +kernel) rfl ⟨rfl, rfl, by simp only [rmGX1_leastPosts, rmX1_around]; omega, by simp only [rmGX1_leastPosts, rmX1_around]; omega⟩ hPD hS 0 1 rfl rfl rfl [0, 1, 2, 3] [] [0, 1, 2, 3] (wN := (wX1 G h0 a0 f0 A0)) rfl rfl rfl rfl rfl hl.1 (Nat.le_of_ble_eq_true rfl) dX1_leastPosts_56 (fun H locs hPD hS => ?_)
      refine lv_iconst (v := (-1)) hx hb dX1_leastPosts_59 (by decide) ?_
      refine lv_ixor hx hb dX1_leastPosts_60 ?_
      refine lv_iand hx hb dX1_leastPosts_61 ?_
      refine lv_iload_n hx hb dX1_leastPosts_62 rfl (lv_at hl 3 rfl) ?_
      refine lv_iconst (v := 1) hx hb dX1_leastPosts_63 (by decide) ?_
      refine lv_isub hx hb dX1_leastPosts_64 ?_
      obtain ⟨q_2, hq_2, h⟩ := ob2 h
      refine kSI (As := [.ref h0, .int (p1 ||| (shl 1 l6)), .int (p2 &&& ((f1_around f0 A0 l6) ^^^ (-1))), .int (p3 - 1)]) (rest := []) C0 (hrec0 l G h0 a0 f0 A0 (p1 ||| (shl 1 l6)) (p2 &&& ((f1_around f0 A0 l6) ^^^ (-1))) (p3 - 1) hq_2) gi_S_X1_77_X1_leastPosts (n := 4) rfl (by decide +kernel) ⟨rfl, rfl, by simp only [rmGX1_leastPosts]; omega, by simp only [rmGX1_leastPosts]; omega⟩ hPD hS [0, 1, 2, 3] [] [0, 1, 2, 3] (wN := (wX1 G h0 a0 f0 A0)) rfl rfl rfl rfl rfl hl.1 (Nat.le_of_ble_eq_true rfl) dX1_leastPosts_65 (fun H locs hPD hS => ?_)
      refine lv_istore (lv' := [(7, .int q_2), (0, .ref h0), (1, .int p1), (2, .int p2), (3, .int p3), (4, .int l4), (5, .int l5), (6, .int l6)]) hx hb dX1_leastPosts_68 hl (by decide) rfl (fun ls hl => ?_)
      refine lv_iload hx hb dX1_leastPosts_70 (lv_at hl 0 rfl) ?_
      refine lv_iconst (v := (-1)) hx hb dX1_leastPosts_72 (by decide) ?_
      refine lv_icmp_eq (tgt := 93) hx hb dX1_leastPosts_73 (by decide) (fun cc1 => ?_) (fun cc1 => ?_)
      · have h := (if_pos cc1).symm.trans h
        refine lv_iinc (v := l6 + 1) (lv' := [(6, .int (l6 + 1)), (7, .int q_2), (0, .ref h0), (1, .int p1), (2, .int p2), (3, .int p3), (4, .int l4), (5, .int l5)]) hx hb dX1_leastPosts_93 hl (k := 7) rfl rfl (by decide) rfl (fun ls hl => ?_)
        refine lv_goto (tgt := 28) hx hb dX1_leastPosts_96 (by decide) ?_
        exact hk28 l4 l5 (l6 + 1) h _ _ _ hPD hS (lv_sub hl [2, 3, 4, 5, 6, 7, 0] rfl)
      · have h := (if_neg cc1).symm.trans h
        refine lv_iload hx hb dX1_leastPosts_76 (lv_at hl 6 rfl) ?_
        refine lv_iconst (v := (-1)) hx hb dX1_leastPosts_78 (by decide) ?_
        refine lv_icmp_eq (tgt := 89) hx hb dX1_leastPosts_79 (by decide) (fun cc1 => ?_) (fun cc1 => ?_)
        · have h := (if_pos cc1).symm.trans h
          refine lv_iload hx hb dX1_leastPosts_89 (lv_at hl 0 rfl) ?_
          refine lv_istore (lv' := [(5, .int q_2), (7, .int q_2), (0, .ref h0), (1, .int p1), (2, .int p2), (3, .int p3), (4, .int l4), (6, .int l6)]) hx hb dX1_leastPosts_91 hl (by decide) rfl (fun ls hl => ?_)
          refine lv_iinc (v := l6 + 1) (lv' := [(6, .int (l6 + 1)), (5, .int q_2), (7, .int q_2), (0, .ref h0), (1, .int p1), (2, .int p2), (3, .int p3), (4, .int l4)]) hx hb dX1_leastPosts_93 hl (k := 7) rfl rfl (by decide) rfl (fun ls hl => ?_)
          refine lv_goto (tgt := 28) hx hb dX1_leastPosts_96 (by decide) ?_
          exact hk28 l4 q_2 (l6 + 1) h _ _ _ hPD hS (lv_sub hl [3, 4, 5, 6, 7, 1, 0] rfl)
        · have h := (if_neg cc1).symm.trans h
          refine lv_iload hx hb dX1_leastPosts_82 (lv_at hl 0 rfl) ?_
          refine lv_iload hx hb dX1_leastPosts_84 (lv_at hl 6 rfl) ?_
          refine lv_icmp_ge (tgt := 93) hx hb dX1_leastPosts_86 (by decide) (fun cc1 => ?_) (fun cc1 => ?_)
          · have h := (if_pos cc1).symm.trans h
            refine lv_iinc (v := l6 + 1) (lv' := [(6, .int (l6 + 1)), (7, .int q_2), (0, .ref h0), (1, .int p1), (2, .int p2), (3, .int p3), (4, .int l4), (5, .int l5)]) hx hb dX1_leastPosts_93 hl (k := 7) rfl rfl (by decide) rfl (fun ls hl => ?_)
            refine lv_goto (tgt := 28) hx hb dX1_leastPosts_96 (by decide) ?_
            exact hk28 l4 l5 (l6 + 1) h _ _ _ hPD hS (lv_sub hl [2, 3, 4, 5, 6, 7, 0] rfl)
          · have h := (if_neg cc1).symm.trans h
            refine lv_iload hx hb dX1_leastPosts_89 (lv_at hl 0 rfl) ?_
            refine lv_istore (lv' := [(5, .int q_2), (7, .int q_2), (0, .ref h0), (1, .int p1), (2, .int p2), (3, .int p3), (4, .int l4), (6, .int l6)]) hx hb dX1_leastPosts_91 hl (by decide) rfl (fun ls hl => ?_)
            refine lv_iinc (v := l6 + 1) (lv' := [(6, .int (l6 + 1)), (5, .int q_2), (7, .int q_2), (0, .ref h0), (1, .int p1), (2, .int p2), (3, .int p3), (4, .int l4)]) hx hb dX1_leastPosts_93 hl (k := 7) rfl rfl (by decide) rfl (fun ls hl => ?_)
            refine lv_goto (tgt := 28) hx hb dX1_leastPosts_96 (by decide) ?_
            exact hk28 l4 q_2 (l6 + 1) h _ _ _ hPD hS (lv_sub hl [3, 4, 5, 6, 7, 1, 0] rfl)
set_option maxRecDepth 100000 in
set_option maxHeartbeats 4000000 in
theorem ww_f1_leastPosts_l28 {d : Nat} {rec : (Nat → Int32) → (Nat → Nat → Int32) → Int32 → Int32 → Int32 → Option (Int32)} (hrec0 : ∀ (l : Launch) (G : Gp) (h0 : Nat) (a0 : Nat → Nat) (f0 : Nat → Int32) (A0 : Nat → Nat → Int32) (p1 : Int32) (p2 : Int32) (p3 : Int32), ∀ {r : Int32}, rec f0 A0 p1 p2 p3 = some r → CtrI l yX1_leastPosts cX1_leastPosts 8 (some .int) (rmGX1_leastPosts d) G [.ref h0, .int p1, .int p2, .int p3] (wX1 G h0 a0 f0 A0) r (wX1 G h0 a0 f0 A0)) (hdd : True)  (C0 : Cx cX1_leastPosts 8 (some .int) RX1 p s m args meth c G DA) {h0 : Nat} {a0 : Nat → Nat} {f0 : Nat → Int32} {A0 : Nat → Nat → Int32} {p1 : Int32} {p2 : Int32} {p3 : Int32}   {res : Int32}  : ∀ (n : Nat) (l4 : Int32) (l5 : Int32) (l6 : Int32), f1_leastPosts_l28 rec f0 A0 p1 p2 p3  n l4 l5 l6 = some res → ∀ (H : Heap) (locs : List Loc) (ls : Array Slot), WD G DA (wX1 G h0 a0 f0 A0) H → va_S DA s.heap H locs → lv_has ls 8 [(0, .ref h0), (1, .int p1), (2, .int p2), (3, .int p3), (4, .int l4), (5, .int l5), (6, .int l6)] → W p l e (rmGX1_leastPosts (d + 1)) s m args below meth c H locs 0 0 (MQ below (QI G DA res (wX1 G h0 a0 f0 A0)) args s 0 0 DA) (F0 m 28 ls []) := by
  intro n
  induction n with
  | zero => intro l4 l5 l6 h; cases h
  | succ n ih => intro l4 l5 l6 h; exact ww_f1_leastPosts_b28 hrec0 hdd C0  ih l4 l5 l6 h
set_option maxRecDepth 100000 in
set_option maxHeartbeats 4000000 in
theorem ko_X1_leastPosts {d : Nat} {rec : (Nat → Int32) → (Nat → Nat → Int32) → Int32 → Int32 → Int32 → Option (Int32)} (hrec0 : ∀ (l : Launch) (G : Gp) (h0 : Nat) (a0 : Nat → Nat) (f0 : Nat → Int32) (A0 : Nat → Nat → Int32) (p1 : Int32) (p2 : Int32) (p3 : Int32), ∀ {r : Int32}, rec f0 A0 p1 p2 p3 = some r → CtrI l yX1_leastPosts cX1_leastPosts 8 (some .int) (rmGX1_leastPosts d) G [.ref h0, .int p1, .int p2, .int p3] (wX1 G h0 a0 f0 A0) r (wX1 G h0 a0 f0 A0)) (hdd : True) (l : Launch) (G : Gp) (h0 : Nat) (a0 : Nat → Nat) (f0 : Nat → Int32) (A0 : Nat → Nat → Int32) (p1 : Int32) (p2 : Int32) (p3 : Int32) : ∀ {r : Int32}, f1_leastPosts rec f0 A0 p1 p2 p3 = some r → CtrI l yX1_leastPosts cX1_leastPosts 8 (some .int) (rmGX1_leastPosts (d + 1)) G [.ref h0, .int p1, .int p2, .int p3] (wX1 G h0 a0 f0 A0) r (wX1 G h0 a0 f0 A0) := by
  intro res h
  refine ctrI_of (cc := cX1_leastPosts) (maxL := 8) (ret := (some .int)) (by decide +kernel) rfl (Nat.le_of_ble_eq_true rfl) (fun p e s m below meth c DA C0 hP hD ls hl => ?_)
  have hPD : WD G DA (wX1 G h0 a0 f0 A0) s.heap := ⟨hP, hD⟩
  have hS : va_S DA s.heap s.heap [] := va_S.rf
  have hl : lv_has ls 8 [(0, .ref h0), (1, .int p1), (2, .int p2), (3, .int p3)] := hl
  obtain ⟨hx, hb, hml, hown, hts⟩ := C0.1
  have hK := C0.2.2.2.1
  unfold f1_leastPosts at h
  refine lv_iload_n hx hb dX1_leastPosts_0 rfl (lv_at hl 2 rfl) ?_
  refine lv_if_ne (tgt := 6) hx hb dX1_leastPosts_1 (by decide) (fun cc1 => ?_) (fun cc1 => ?_)
  · have h := (if_neg cc1).symm.trans h
    refine lv_iload_n hx hb dX1_leastPosts_6 rfl (lv_at hl 3 rfl) ?_
    refine lv_if_gt (tgt := 12) hx hb dX1_leastPosts_7 (by decide) (fun cc1 => ?_) (fun cc1 => ?_)
    · have h := (if_pos cc1).symm.trans h
      refine lv_aload_n hx hb dX1_leastPosts_12 rfl (lv_at hl 0 rfl) ?_
      refine lv_iload_n hx hb dX1_leastPosts_13 rfl (lv_at hl 2 rfl) ?_
      obtain ⟨q_1, hq_1, h⟩ := ob2 h
      refine kNI (As := [.int p2]) (rest := [.ref h0]) C0 (kt_X9_lowestOf l G  p2 hq_1) gi_U_X9_lowestOf (host := "IdleCrimes") (index := 81) (List.mem_of_getElem? (i := 33) rfl) gw_6 gw_123 (n := 1) rfl (by decide +kernel) ⟨rfl, rfl, by simp only [rmGX1_leastPosts, rmX9_lowestOf]; omega, by simp only [rmGX1_leastPosts, rmX9_lowestOf]; omega⟩ hPD hS [] [0, 1, 2, 3] [0, 1, 2, 3] (wN := (wX1 G h0 a0 f0 A0)) rfl rfl rfl rfl rfl hl.1 (Nat.le_of_ble_eq_true rfl) dX1_leastPosts_14 (fun H locs hPD hS => ?_)
      refine kVI (As := [.int q_1]) (rest := []) C0 (kt_X1_around l G h0 a0 f0 A0 q_1) gi_V_X1_41_X1_around (n := 1) rfl (by decide +kernel) rfl ⟨rfl, rfl, by simp only [rmGX1_leastPosts, rmX1_around]; omega, by simp only [rmGX1_leastPosts, rmX1_around]; omega⟩ hPD hS 0 1 rfl rfl rfl [0, 1, 2, 3] [] [0, 1, 2, 3] (wN := (wX1 G h0 a0 f0 A0)) rfl rfl rfl rfl rfl hl.1 (Nat.le_of_ble_eq_true rfl) dX1_leastPosts_17 (fun H locs hPD hS => ?_)
      refine lv_istore (lv' := [(4, .int (f1_around f0 A0 q_1)), (0, .ref h0), (1, .int p1), (2, .int p2), (3, .int p3)]) hx hb dX1_leastPosts_20 hl (by decide) rfl (fun ls hl => ?_)
      refine lv_iconst (v := (-1)) hx hb dX1_leastPosts_22 (by decide) ?_
      refine lv_istore (lv' := [(5, .int (-1)), (4, .int (f1_around f0 A0 q_1)), (0, .ref h0), (1, .int p1), (2, .int p2), (3, .int p3)]) hx hb dX1_leastPosts_23 hl (by decide) rfl (fun ls hl => ?_)
      refine lv_iconst (v := 0) hx hb dX1_leastPosts_25 (by decide) ?_
      refine lv_istore (lv' := [(6, .int 0), (5, .int (-1)), (4, .int (f1_around f0 A0 q_1)), (0, .ref h0), (1, .int p1), (2, .int p2), (3, .int p3)]) hx hb dX1_leastPosts_26 hl (by decide) rfl (fun ls hl => ?_)
      exact ww_f1_leastPosts_l28 hrec0 hdd C0 NF (f1_around f0 A0 q_1) (-1) 0 h _ _ _ hPD hS (lv_sub hl [3, 4, 5, 6, 2, 1, 0] rfl)
    · have h := (if_neg cc1).symm.trans h
      refine lv_iconst (v := (-1)) hx hb dX1_leastPosts_10 (by decide) ?_
      obtain rfl := Option.some.inj h
      exact eI C0 hPD.1 hPD.2 hS rfl dX1_leastPosts_11
  · have h := (if_pos cc1).symm.trans h
    refine lv_iload_n hx hb dX1_leastPosts_4 rfl (lv_at hl 1 rfl) ?_
    obtain rfl := Option.some.inj h
    exact eI C0 hPD.1 hPD.2 hS rfl dX1_leastPosts_5

set_option maxRecDepth 100000 in
set_option maxHeartbeats 4000000 in
theorem kg_X1_leastPosts : ∀ d : Nat, (∀ (l : Launch) (G : Gp) (h0 : Nat) (a0 : Nat → Nat) (f0 : Nat → Int32) (A0 : Nat → Nat → Int32) (p1 : Int32) (p2 : Int32) (p3 : Int32), ∀ {r : Int32}, f1_leastPosts_rec d f0 A0 p1 p2 p3 = some r → CtrI l yX1_leastPosts cX1_leastPosts 8 (some .int) (rmGX1_leastPosts d) G [.ref h0, .int p1, .int p2, .int p3] (wX1 G h0 a0 f0 A0) r (wX1 G h0 a0 f0 A0)) := by
  intro d
  induction d with
  | zero => intro l G _ _ _ _ _ _ _ r h; cases h
  | succ d ih =>
    exact fun l G v0 v1 v2 v3 v4 v5 v6 r h => ko_X1_leastPosts ih trivial l G v0 v1 v2 v3 v4 v5 v6 h
theorem kt_X1_leastPosts (d : Nat) : ∀ (l : Launch) (G : Gp) (h0 : Nat) (a0 : Nat → Nat) (f0 : Nat → Int32) (A0 : Nat → Nat → Int32) (p1 : Int32) (p2 : Int32) (p3 : Int32), ∀ {r : Int32}, f1_leastPosts_rec d f0 A0 p1 p2 p3 = some r → CtrI l yX1_leastPosts cX1_leastPosts 8 (some .int) (rmGX1_leastPosts d) G [.ref h0, .int p1, .int p2, .int p3] (wX1 G h0 a0 f0 A0) r (wX1 G h0 a0 f0 A0) := (kg_X1_leastPosts d)
abbrev rmX1_fewestPosts : Room := { frames := 68, cells := 0, slots := 0, locals := 1819 }
set_option maxRecDepth 100000 in
set_option maxHeartbeats 4000000 in
theorem ww_f1_fewestPosts_b4  (C0 : Cx cX1_fewestPosts 3 (some .int) RX1 p s m args meth c G DA) {h0 : Nat} {a0 : Nat → Nat} {f0 : Nat → Int32} {A0 : Nat → Nat → Int32}  {k4 : Int32 → Int32 → Option (Int32)} {res : Int32}  (hk4 : ∀ (l1 : Int32) (l2 : Int32), k4 l1 l2 = some res → ∀ (H : Heap) (locs : List Loc) (ls : Array Slot), WD G DA (wX1 G h0 a0 f0 A0) H → va_S DA s.heap H locs → lv_has ls 3 [(0, .ref h0), (1, .int l1), (2, .int l2)] → W p l e rmX1_fewestPosts s m args below meth c H locs 0 0 (MQ below (QI G DA res (wX1 G h0 a0 f0 A0)) args s 0 0 DA) (F0 m 4 ls [])) : ∀ (l1 : Int32) (l2 : Int32), f1_fewestPosts_b4 f0 A0  k4 l1 l2 = some res → ∀ (H : Heap) (locs : List Loc) (ls : Array Slot), WD G DA (wX1 G h0 a0 f0 A0) H → va_S DA s.heap H locs → lv_has ls 3 [(0, .ref h0), (1, .int l1), (2, .int l2)] → W p l e rmX1_fewestPosts s m args below meth c H locs 0 0 (MQ below (QI G DA res (wX1 G h0 a0 f0 A0)) args s 0 0 DA) (F0 m 4 ls []) := by
  obtain ⟨hx, hb, hml, hown, hts⟩ := C0.1
  have hK := C0.2.2.2.1
  intro l1 l2 h _ _ _ hPD hS hl
  unfold f1_fewestPosts_b4 at h
  refine lv_iload_n hx hb dX1_fewestPosts_4 rfl (lv_at hl 2 rfl) ?_
  refine lv_bipush (v := 16) hx hb dX1_fewestPosts_5 (by decide) ?_
  refine lv_icmp_gt (tgt := 32) hx hb dX1_fewestPosts_7 (by decide) (fun cc1 => ?_) (fun cc1 => ?_)
  · have h := (if_pos cc1).symm.trans h
    refine lv_iload_n hx hb dX1_fewestPosts_32 rfl (lv_at hl 1 rfl) ?_
    obtain rfl := Option.some.inj h
    exact eI C0 hPD.1 hPD.2 hS rfl dX1_fewestPosts_33
  · have h := (if_neg cc1).symm.trans h
    refine lv_iload_n hx hb dX1_fewestPosts_10 rfl (lv_at hl 1 rfl) ?_
    refine lv_iconst (v := (-1)) hx hb dX1_fewestPosts_11 (by decide) ?_
    refine lv_icmp_ne (tgt := 32) hx hb dX1_fewestPosts_12 (by decide) (fun cc1 => ?_) (fun cc1 => ?_)
    · have h := (if_neg cc1).symm.trans h
      refine lv_iload_n hx hb dX1_fewestPosts_32 rfl (lv_at hl 1 rfl) ?_
      obtain rfl := Option.some.inj h
      exact eI C0 hPD.1 hPD.2 hS rfl dX1_fewestPosts_33
    · have h := (if_pos cc1).symm.trans h
      refine lv_aload_n hx hb dX1_fewestPosts_15 rfl (lv_at hl 0 rfl) ?_
      refine lv_iconst (v := 0) hx hb dX1_fewestPosts_16 (by decide) ?_
      refine lv_aload_n hx hb dX1_fewestPosts_17 rfl (lv_at hl 0 rfl) ?_
      refine va_get (D := G.1) (ci := 1) (v := .int (f0 0)) (C := RX1) (T := TX1) (N := 4) hx hb hts inlX1 hown hK hPD.1 0 rfl rfl 0 (by decide) (hts _ gw_72) (fun _ h9 => h9) rfl dX1_fewestPosts_18 ?_
      refine lv_iload_n hx hb dX1_fewestPosts_21 rfl (lv_at hl 2 rfl) ?_
      obtain ⟨q_1, hq_1, h⟩ := ob2 h
      refine kSI (As := [.ref h0, .int 0, .int (f0 0), .int l2]) (rest := []) C0 (kt_X1_leastPosts 64 l G h0 a0 f0 A0 0 (f0 0) l2 hq_1) gi_S_X1_77_X1_leastPosts (n := 4) rfl (by decide +kernel) ⟨rfl, rfl, Nat.le_of_ble_eq_true rfl, Nat.le_of_ble_eq_true rfl⟩ hPD hS [0, 1, 2, 3] [] [0, 1, 2, 3] (wN := (wX1 G h0 a0 f0 A0)) rfl rfl rfl rfl rfl hl.1 (Nat.le_of_ble_eq_true rfl) dX1_fewestPosts_22 (fun H locs hPD hS => ?_)
      refine lv_istore_n (lv' := [(1, .int q_1), (0, .ref h0), (2, .int l2)]) hx hb dX1_fewestPosts_25 rfl hl (by decide) rfl (fun ls hl => ?_)
      refine lv_iinc (v := l2 + 1) (lv' := [(2, .int (l2 + 1)), (1, .int q_1), (0, .ref h0)]) hx hb dX1_fewestPosts_26 hl (k := 2) rfl rfl (by decide) rfl (fun ls hl => ?_)
      refine lv_goto (tgt := 4) hx hb dX1_fewestPosts_29 (by decide) ?_
      exact hk4 q_1 (l2 + 1) h _ _ _ hPD hS (lv_sub hl [2, 1, 0] rfl)
set_option maxRecDepth 100000 in
set_option maxHeartbeats 4000000 in
theorem ww_f1_fewestPosts_l4  (C0 : Cx cX1_fewestPosts 3 (some .int) RX1 p s m args meth c G DA) {h0 : Nat} {a0 : Nat → Nat} {f0 : Nat → Int32} {A0 : Nat → Nat → Int32}   {res : Int32}  : ∀ (n : Nat) (l1 : Int32) (l2 : Int32), f1_fewestPosts_l4 f0 A0  n l1 l2 = some res → ∀ (H : Heap) (locs : List Loc) (ls : Array Slot), WD G DA (wX1 G h0 a0 f0 A0) H → va_S DA s.heap H locs → lv_has ls 3 [(0, .ref h0), (1, .int l1), (2, .int l2)] → W p l e rmX1_fewestPosts s m args below meth c H locs 0 0 (MQ below (QI G DA res (wX1 G h0 a0 f0 A0)) args s 0 0 DA) (F0 m 4 ls []) := by
  intro n
  induction n with
  | zero => intro l1 l2 h; cases h
  | succ n ih => intro l1 l2 h; exact ww_f1_fewestPosts_b4 C0  ih l1 l2 h
set_option maxRecDepth 100000 in
set_option maxHeartbeats 4000000 in
theorem kt_X1_fewestPosts (l : Launch) (G : Gp) (h0 : Nat) (a0 : Nat → Nat) (f0 : Nat → Int32) (A0 : Nat → Nat → Int32) : ∀ {r : Int32}, f1_fewestPosts f0 A0 = some r → CtrI l yX1_fewestPosts cX1_fewestPosts 3 (some .int) rmX1_fewestPosts G [.ref h0] (wX1 G h0 a0 f0 A0) r (wX1 G h0 a0 f0 A0) := by
  intro res h
  refine ctrI_of (cc := cX1_fewestPosts) (maxL := 3) (ret := (some .int)) (by decide +kernel) rfl (Nat.le_of_ble_eq_true rfl) (fun p e s m below meth c DA C0 hP hD ls hl => ?_)
  have hPD : WD G DA (wX1 G h0 a0 f0 A0) s.heap := ⟨hP, hD⟩
  have hS : va_S DA s.heap s.heap [] := va_S.rf
  have hl : lv_has ls 3 [(0, .ref h0)] := hl
  obtain ⟨hx, hb, hml, hown, hts⟩ := C0.1
  have hK := C0.2.2.2.1
  unfold f1_fewestPosts at h
  refine lv_iconst (v := (-1)) hx hb dX1_fewestPosts_0 (by decide) ?_
  refine lv_istore_n (lv' := [(1, .int (-1)), (0, .ref h0)]) hx hb dX1_fewestPosts_1 rfl hl (by decide) rfl (fun ls hl => ?_)
  refine lv_iconst (v := 0) hx hb dX1_fewestPosts_2 (by decide) ?_
  refine lv_istore_n (lv' := [(2, .int 0), (1, .int (-1)), (0, .ref h0)]) hx hb dX1_fewestPosts_3 rfl hl (by decide) rfl (fun ls hl => ?_)
  exact ww_f1_fewestPosts_l4 C0 NF (-1) 0 h _ _ _ hPD hS (lv_sub hl [2, 1, 0] rfl)
abbrev rmX2_order : Room := { frames := 1, cells := 0, slots := 0, locals := 22 }
set_option maxRecDepth 100000 in
set_option maxHeartbeats 4000000 in
theorem kt_X2_order (l : Launch) (G : Gp) (h0 : Nat) (a0 : Nat → Nat) (f0 : Nat → Int32) (A0 : Nat → Nat → Int32) (p1 : Int32) (p2 : Int32) : ∀ {r : Int32 × (Nat → Nat → Int32) × (Nat → Int32)}, f2_order f0 A0 p1 p2 = some r → CtrI l yX2_order cX2_order 3 (some .int) rmX2_order G [.ref h0, .int p1, .int p2] (wX2 G h0 a0 f0 A0) r.1 (wX2 G h0 a0 r.2.2 r.2.1) := by
  intro res h
  refine ctrI_of (cc := cX2_order) (maxL := 3) (ret := (some .int)) (by decide +kernel) rfl (Nat.le_of_ble_eq_true rfl) (fun p e s m below meth c DA C0 hP hD ls hl => ?_)
  have hPD : WD G DA (wX2 G h0 a0 f0 A0) s.heap := ⟨hP, hD⟩
  have hS : va_S DA s.heap s.heap [] := va_S.rf
  have hl : lv_has ls 3 [(0, .ref h0), (1, .int p1), (2, .int p2)] := hl
  obtain ⟨hx, hb, hml, hown, hts⟩ := C0.1
  have hK := C0.2.2.2.1
  unfold f2_order at h
  refine lv_aload_n hx hb dX2_order_0 rfl (lv_at hl 0 rfl) ?_
  refine va_get (D := G.1) (ci := 2) (v := .ref (a0 0)) (C := RX2) (T := TX2) (N := 10) hx hb hts inlX2 hown hK hPD.1 0 rfl rfl 0 (by decide) (hts _ gw_128) (fun _ h9 => h9) rfl dX2_order_1 ?_
  refine lv_aload_n hx hb dX2_order_4 rfl (lv_at hl 0 rfl) ?_
  refine va_get (D := G.1) (ci := 2) (v := .int (f0 7)) (C := RX2) (T := TX2) (N := 10) hx hb hts inlX2 hown hK hPD.1 0 rfl rfl 7 (by decide) (hts _ gw_129) (fun _ h9 => h9) rfl dX2_order_5 ?_
  refine lv_iload_n hx hb dX2_order_8 rfl (lv_at hl 1 rfl) ?_
  obtain ⟨z_1, ez_1, h⟩ := lvl h
  have kc := kt_X9_put l G (a0 0) 240 (A0 0) (f0 7) p1 (by decide)
  rw [← ez_1] at kc
  clear ez_1
  refine kNV (As := [.ref (a0 0), .int (f0 7), .int p1]) (rest := []) C0 (kc) gi_U_X9_put (host := "IdleCrimes") (index := 65) (List.mem_of_getElem? (i := 12) rfl) gw_6 gw_19 (n := 3) rfl (by decide +kernel) ⟨rfl, rfl, Nat.le_of_ble_eq_true rfl, Nat.le_of_ble_eq_true rfl⟩ hPD hS [1] [0, 2, 3, 4, 5, 6, 7] [0, 7, 1, 2, 3, 4, 5, 6] (wN := (wX2 G h0 a0 f0 (updA A0 0 z_1))) rfl rfl rfl rfl rfl hl.1 (Nat.le_of_ble_eq_true rfl) dX2_order_9 (fun H locs hPD hS => ?_)
  obtain ⟨A0_2, eA0_2, h⟩ := lvl h
  have hPD : WD G DA (wX2 G h0 a0 f0 A0_2) H := by rw [eA0_2]; exact hPD
  clear eA0_2
  refine lv_aload_n hx hb dX2_order_12 rfl (lv_at hl 0 rfl) ?_
  refine va_get (D := G.1) (ci := 2) (v := .ref (a0 1)) (C := RX2) (T := TX2) (N := 10) hx hb hts inlX2 hown hK hPD.1 0 rfl rfl 1 (by decide) (hts _ gw_130) (fun _ h9 => h9) rfl dX2_order_13 ?_
  refine lv_aload_n hx hb dX2_order_16 rfl (lv_at hl 0 rfl) ?_
  refine va_get (D := G.1) (ci := 2) (v := .int (f0 7)) (C := RX2) (T := TX2) (N := 10) hx hb hts inlX2 hown hK hPD.1 0 rfl rfl 7 (by decide) (hts _ gw_129) (fun _ h9 => h9) rfl dX2_order_17 ?_
  refine lv_iload_n hx hb dX2_order_20 rfl (lv_at hl 2 rfl) ?_
  obtain ⟨z_3, ez_3, h⟩ := lvl h
  have kc := kt_X9_put l G (a0 1) 240 (A0_2 1) (f0 7) p2 (by decide)
  rw [← ez_3] at kc
  clear ez_3
  refine kNV (As := [.ref (a0 1), .int (f0 7), .int p2]) (rest := []) C0 (kc) gi_U_X9_put (host := "IdleCrimes") (index := 65) (List.mem_of_getElem? (i := 12) rfl) gw_6 gw_19 (n := 3) rfl (by decide +kernel) ⟨rfl, rfl, Nat.le_of_ble_eq_true rfl, Nat.le_of_ble_eq_true rfl⟩ hPD hS [2] [0, 1, 3, 4, 5, 6, 7] [0, 1, 7, 2, 3, 4, 5, 6] (wN := (wX2 G h0 a0 f0 (updA A0_2 1 z_3))) rfl rfl rfl rfl rfl hl.1 (Nat.le_of_ble_eq_true rfl) dX2_order_21 (fun H locs hPD hS => ?_)
  obtain ⟨A0_4, eA0_4, h⟩ := lvl h
  have hPD : WD G DA (wX2 G h0 a0 f0 A0_4) H := by rw [eA0_4]; exact hPD
  clear eA0_4
  refine lv_aload_n hx hb dX2_order_24 rfl (lv_at hl 0 rfl) ?_
  refine lv_dup hx hb dX2_order_25 rfl ?_
  refine va_get (D := G.1) (ci := 2) (v := .int (f0 7)) (C := RX2) (T := TX2) (N := 10) hx hb hts inlX2 hown hK hPD.1 0 rfl rfl 7 (by decide) (hts _ gw_129) (fun _ h9 => h9) rfl dX2_order_26 ?_
  refine lv_iconst (v := 1) hx hb dX2_order_29 (by decide) ?_
  refine lv_iadd hx hb dX2_order_30 ?_
  refine va_put (D := G.1) (ci := 2) (v := .int ((f0 7) + 1)) (ty := .int) (C := RX2) (T := TX2) (N := 10) hx hb hts inlX2 tyX2 tyX2_ok nmX2 hown hK hPD.1 hPD.2 hS 0 rfl rfl 7 (by decide) (hts _ gw_129) (fun _ h9 => h9) rfl (by decide +kernel) rfl rfl (Nat.le_of_ble_eq_true rfl) dX2_order_31 (fun H locs hP hD hS => ?_)
  obtain ⟨f0_5, ef0_5, h⟩ := lvl h
  have hPD : WD G DA (wX2 G h0 a0 f0_5 A0_4) H := by rw [ef0_5]; exact ⟨hP, hD⟩
  clear ef0_5 hP hD
  refine lv_aload_n hx hb dX2_order_34 rfl (lv_at hl 0 rfl) ?_
  refine va_get (D := G.1) (ci := 2) (v := .int (f0_5 7)) (C := RX2) (T := TX2) (N := 10) hx hb hts inlX2 hown hK hPD.1 0 rfl rfl 7 (by decide) (hts _ gw_129) (fun _ h9 => h9) rfl dX2_order_35 ?_
  refine lv_iconst (v := 1) hx hb dX2_order_38 (by decide) ?_
  refine lv_isub hx hb dX2_order_39 ?_
  obtain rfl := Option.some.inj h
  exact eI C0 hPD.1 hPD.2 hS rfl dX2_order_40
abbrev rmX2_opens : Room := { frames := 2, cells := 0, slots := 0, locals := 43 }
set_option maxRecDepth 100000 in
set_option maxHeartbeats 4000000 in
theorem kt_X2_opens (l : Launch) (G : Gp) (h0 : Nat) (a0 : Nat → Nat) (f0 : Nat → Int32) (A0 : Nat → Nat → Int32) (p1 : Int32) : ∀ {r : Int32 × (Nat → Int32)}, f2_opens f0 A0 p1 = some r → CtrI l yX2_opens cX2_opens 2 (some .boolean) rmX2_opens G [.ref h0, .int p1] (wX7 G h0 a0 f0 A0) r.1 (wX7 G h0 a0 r.2 A0) := by
  intro res h
  refine ctrI_of (cc := cX2_opens) (maxL := 2) (ret := (some .boolean)) (by decide +kernel) rfl (Nat.le_of_ble_eq_true rfl) (fun p e s m below meth c DA C0 hP hD ls hl => ?_)
  have hPD : WD G DA (wX7 G h0 a0 f0 A0) s.heap := ⟨hP, hD⟩
  have hS : va_S DA s.heap s.heap [] := va_S.rf
  have hl : lv_has ls 2 [(0, .ref h0), (1, .int p1)] := hl
  obtain ⟨hx, hb, hml, hown, hts⟩ := C0.1
  have hK := C0.2.2.2.1
  unfold f2_opens at h
  refine lv_iload_n hx hb dX2_opens_0 rfl (lv_at hl 1 rfl) ?_
  refine lv_bipush (v := 6) hx hb dX2_opens_1 (by decide) ?_
  refine lv_icmp_lt (tgt := 13) hx hb dX2_opens_3 (by decide) (fun cc1 => ?_) (fun cc1 => ?_)
  · have h := (if_pos cc1).symm.trans h
    refine lv_aload_n hx hb dX2_opens_13 rfl (lv_at hl 0 rfl) ?_
    obtain ⟨z_1, ez_1, h⟩ := lvl h
    have kc := kt_X7_step l G h0 a0 f0 A0
    rw [← ez_1] at kc
    clear ez_1
    refine kVV (As := []) (rest := []) C0 (kc) gi_V_X2_62_X7_step (n := 0) rfl (by decide +kernel) rfl ⟨rfl, rfl, Nat.le_of_ble_eq_true rfl, Nat.le_of_ble_eq_true rfl⟩ hPD hS 0 7 rfl rfl rfl [0, 1] [] [0, 1] (wN := (wX7 G h0 a0 z_1 A0)) rfl rfl rfl rfl rfl hl.1 (Nat.le_of_ble_eq_true rfl) dX2_opens_14 (fun H locs hPD hS => ?_)
    refine lv_iconst (v := 1) hx hb dX2_opens_17 (by decide) ?_
    obtain rfl := Option.some.inj h
    exact eZ C0 hPD.1 hPD.2 hS rfl rfl dX2_opens_18
  · have h := (if_neg cc1).symm.trans h
    refine lv_aload_n hx hb dX2_opens_6 rfl (lv_at hl 0 rfl) ?_
    refine lv_iconst (v := 5) hx hb dX2_opens_7 (by decide) ?_
    obtain ⟨z_2, ez_2, h⟩ := lvl h
    have kc := kt_X7_fail l G h0 a0 f0 A0 5
    rw [← ez_2] at kc
    clear ez_2
    refine kVV (As := [.int 5]) (rest := []) C0 (kc) gi_V_X2_58_X7_fail (n := 1) rfl (by decide +kernel) rfl ⟨rfl, rfl, Nat.le_of_ble_eq_true rfl, Nat.le_of_ble_eq_true rfl⟩ hPD hS 0 7 rfl rfl rfl [0, 1] [] [0, 1] (wN := (wX7 G h0 a0 z_2 A0)) rfl rfl rfl rfl rfl hl.1 (Nat.le_of_ble_eq_true rfl) dX2_opens_8 (fun H locs hPD hS => ?_)
    refine lv_iconst (v := 0) hx hb dX2_opens_11 (by decide) ?_
    obtain rfl := Option.some.inj h
    exact eZ C0 hPD.1 hPD.2 hS rfl rfl dX2_opens_12
abbrev rmX2_close : Room := { frames := 3, cells := 0, slots := 0, locals := 64 }
set_option maxRecDepth 100000 in
set_option maxHeartbeats 4000000 in
theorem kt_X2_close (l : Launch) (G : Gp) (h0 : Nat) (a0 : Nat → Nat) (f0 : Nat → Int32) (A0 : Nat → Nat → Int32) (p1 : Int32) : ∀ {r : (Nat → Int32)}, f2_close f0 A0 p1 = some r → CtrV l yX2_close cX2_close 2 none rmX2_close G [.ref h0, .int p1] (wX7 G h0 a0 f0 A0) (wX7 G h0 a0 r A0) := by
  intro res h
  refine ctrV_of (cc := cX2_close) (maxL := 2) (ret := none) (by decide +kernel) rfl (Nat.le_of_ble_eq_true rfl) (fun p e s m below meth c DA C0 hP hD ls hl => ?_)
  have hPD : WD G DA (wX7 G h0 a0 f0 A0) s.heap := ⟨hP, hD⟩
  have hS : va_S DA s.heap s.heap [] := va_S.rf
  have hl : lv_has ls 2 [(0, .ref h0), (1, .int p1)] := hl
  obtain ⟨hx, hb, hml, hown, hts⟩ := C0.1
  have hK := C0.2.2.2.1
  unfold f2_close at h
  refine lv_aload_n hx hb dX2_close_0 rfl (lv_at hl 0 rfl) ?_
  refine kVI (As := []) (rest := []) C0 (kt_X7_isFine l G h0 a0 f0 A0) gi_V_X2_73_X7_isFine (n := 0) rfl (by decide +kernel) rfl ⟨rfl, rfl, Nat.le_of_ble_eq_true rfl, Nat.le_of_ble_eq_true rfl⟩ hPD hS 0 7 rfl rfl rfl [0, 1] [] [0, 1] (wN := (wX7 G h0 a0 f0 A0)) rfl rfl rfl rfl rfl hl.1 (Nat.le_of_ble_eq_true rfl) dX2_close_1 (fun H locs hPD hS => ?_)
  refine lv_if_eq (tgt := 13) hx hb dX2_close_4 (by decide) (fun cc1 => ?_) (fun cc1 => ?_)
  · have h := (if_pos cc1).symm.trans h
    obtain rfl := Option.some.inj h
    exact eV C0 hPD.1 hPD.2 hS dX2_close_13
  · have h := (if_neg cc1).symm.trans h
    refine lv_aload_n hx hb dX2_close_7 rfl (lv_at hl 0 rfl) ?_
    refine lv_iload_n hx hb dX2_close_8 rfl (lv_at hl 1 rfl) ?_
    obtain ⟨q_1, hq_1, h⟩ := ob2 h
    refine kVI (As := [.int p1]) (rest := []) C0 (kt_X7_take l G h0 a0 f0 A0 p1 hq_1) gi_V_X2_76_X7_take (n := 1) rfl (by decide +kernel) rfl ⟨rfl, rfl, Nat.le_of_ble_eq_true rfl, Nat.le_of_ble_eq_true rfl⟩ hPD hS 0 7 rfl rfl rfl [0, 1] [] [0, 1] (wN := (wX7 G h0 a0 q_1.2 A0)) rfl rfl rfl rfl rfl hl.1 (Nat.le_of_ble_eq_true rfl) dX2_close_9 (fun H locs hPD hS => ?_)
    refine lv_pop hx hb dX2_close_12 rfl ?_
    obtain rfl := Option.some.inj h
    exact eV C0 hPD.1 hPD.2 hS dX2_close_13
abbrev rmX7_isDigit : Room := { frames := 1, cells := 0, slots := 0, locals := 22 }
set_option maxRecDepth 100000 in
set_option maxHeartbeats 4000000 in
theorem kt_X7_isDigit (l : Launch) (G : Gp) (p0 : Int32) : ∀ {r : Int32}, f7_isDigit p0 = some r → CtrI l yX7_isDigit cX7_isDigit 1 (some .boolean) rmX7_isDigit G [.int p0] ([] : va_W) r ([] : va_W) := by
  intro res h
  refine ctrI_of (cc := cX7_isDigit) (maxL := 1) (ret := (some .boolean)) (by decide +kernel) rfl (Nat.le_of_ble_eq_true rfl) (fun p e s m below meth c DA C0 hP hD ls hl => ?_)
  have hPD : WD G DA ([] : va_W) s.heap := ⟨hP, hD⟩
  have hS : va_S DA s.heap s.heap [] := va_S.rf
  have hl : lv_has ls 1 [(0, .int p0)] := hl
  obtain ⟨hx, hb, hml, hown, hts⟩ := C0.1
  have hK := C0.2.2.2.1
  unfold f7_isDigit at h
  refine lv_iload_n hx hb dX7_isDigit_0 rfl (lv_at hl 0 rfl) ?_
  refine lv_bipush (v := 48) hx hb dX7_isDigit_1 (by decide) ?_
  refine lv_bipush (v := 57) hx hb dX7_isDigit_3 (by decide) ?_
  refine kNI (As := [.int p0, .int 48, .int 57]) (rest := []) C0 (kt_X9_within l G  p0 48 57) gi_U_X9_within (host := "IdleCrimes") (index := 65) (List.mem_of_getElem? (i := 13) rfl) gw_6 gw_25 (n := 3) rfl (by decide +kernel) ⟨rfl, rfl, Nat.le_of_ble_eq_true rfl, Nat.le_of_ble_eq_true rfl⟩ hPD hS [] [] [] (wN := ([] : va_W)) rfl rfl rfl rfl rfl hl.1 (Nat.le_of_ble_eq_true rfl) dX7_isDigit_5 (fun H locs hPD hS => ?_)
  obtain ⟨hz, h⟩ := ob h
  obtain rfl := Option.some.inj h
  exact eZ C0 hPD.1 hPD.2 hS rfl (nbool (Classical.not_not.mp hz)) dX7_isDigit_8
abbrev rmX7_number : Room := { frames := 2, cells := 0, slots := 0, locals := 43 }
set_option maxRecDepth 100000 in
set_option maxHeartbeats 4000000 in
theorem ww_f7_number_b54  (C0 : Cx cX7_number 4 (some .int) RX7 p s m args meth c G DA) {h0 : Nat} {a0 : Nat → Nat} {A0 : Nat → Nat → Int32} {p1 : Int32}   {res : Int32 × (Nat → Int32)}  : ∀ (f0 : Nat → Int32) (l2 : Int32) (l3 : Int32), f7_number_b54 A0 p1  f0 l2 l3 = some res → ∀ (H : Heap) (locs : List Loc) (ls : Array Slot), WD G DA (wX7 G h0 a0 f0 A0) H → va_S DA s.heap H locs → lv_has ls 4 [(0, .ref h0), (1, .int p1), (2, .int l2), (3, .int l3)] → W p l e rmX7_number s m args below meth c H locs 0 0 (MQ below (QI G DA res.1 (wX7 G h0 a0 res.2 A0)) args s 0 0 DA) (F0 m 54 ls []) := by
  obtain ⟨hx, hb, hml, hown, hts⟩ := C0.1
  have hK := C0.2.2.2.1
  intro f0 l2 l3 h _ _ _ hPD hS hl
  unfold f7_number_b54 at h
  refine lv_iload_n hx hb dX7_number_54 rfl (lv_at hl 3 rfl) ?_
  refine lv_if_ne (tgt := 63) hx hb dX7_number_55 (by decide) (fun cc1 => ?_) (fun cc1 => ?_)
  · have h := (if_neg cc1).symm.trans h
    refine lv_iload_n hx hb dX7_number_63 rfl (lv_at hl 2 rfl) ?_
    obtain rfl := Option.some.inj h
    exact eI C0 hPD.1 hPD.2 hS rfl dX7_number_64
  · have h := (if_pos cc1).symm.trans h
    refine lv_aload_n hx hb dX7_number_58 rfl (lv_at hl 0 rfl) ?_
    refine lv_iconst (v := 1) hx hb dX7_number_59 (by decide) ?_
    obtain ⟨z_1, ez_1, h⟩ := lvl h
    have kc := kt_X7_fail l G h0 a0 f0 A0 1
    rw [← ez_1] at kc
    clear ez_1
    refine kVV (As := [.int 1]) (rest := []) C0 (kc) gi_V_X7_43_X7_fail (n := 1) rfl (by decide +kernel) rfl ⟨rfl, rfl, Nat.le_of_ble_eq_true rfl, Nat.le_of_ble_eq_true rfl⟩ hPD hS 0 7 rfl rfl rfl [0, 1] [] [0, 1] (wN := (wX7 G h0 a0 z_1 A0)) rfl rfl rfl rfl rfl hl.1 (Nat.le_of_ble_eq_true rfl) dX7_number_60 (fun H locs hPD hS => ?_)
    refine lv_iload_n hx hb dX7_number_63 rfl (lv_at hl 2 rfl) ?_
    obtain rfl := Option.some.inj h
    exact eI C0 hPD.1 hPD.2 hS rfl dX7_number_64
set_option maxRecDepth 100000 in
set_option maxHeartbeats 4000000 in
theorem ww_f7_number_b4  (C0 : Cx cX7_number 4 (some .int) RX7 p s m args meth c G DA) {h0 : Nat} {a0 : Nat → Nat} {A0 : Nat → Nat → Int32} {p1 : Int32}  {k4 : (Nat → Int32) → Int32 → Int32 → Option (Int32 × (Nat → Int32))} {res : Int32 × (Nat → Int32)}  (hk4 : ∀ (f0 : Nat → Int32) (l2 : Int32) (l3 : Int32), k4 f0 l2 l3 = some res → ∀ (H : Heap) (locs : List Loc) (ls : Array Slot), WD G DA (wX7 G h0 a0 f0 A0) H → va_S DA s.heap H locs → lv_has ls 4 [(0, .ref h0), (1, .int p1), (2, .int l2), (3, .int l3)] → W p l e rmX7_number s m args below meth c H locs 0 0 (MQ below (QI G DA res.1 (wX7 G h0 a0 res.2 A0)) args s 0 0 DA) (F0 m 4 ls [])) : ∀ (f0 : Nat → Int32) (l2 : Int32) (l3 : Int32), f7_number_b4 A0 p1  k4 f0 l2 l3 = some res → ∀ (H : Heap) (locs : List Loc) (ls : Array Slot), WD G DA (wX7 G h0 a0 f0 A0) H → va_S DA s.heap H locs → lv_has ls 4 [(0, .ref h0), (1, .int p1), (2, .int l2), (3, .int l3)] → W p l e rmX7_number s m args below meth c H locs 0 0 (MQ below (QI G DA res.1 (wX7 G h0 a0 res.2 A0)) args s 0 0 DA) (F0 m 4 ls []) := by
  obtain ⟨hx, hb, hml, hown, hts⟩ := C0.1
  have hK := C0.2.2.2.1
  intro f0 l2 l3 h _ _ _ hPD hS hl
  unfold f7_number_b4 at h
  refine lv_iload_n hx hb dX7_number_4 rfl (lv_at hl 3 rfl) ?_
  refine lv_iload_n hx hb dX7_number_5 rfl (lv_at hl 1 rfl) ?_
  refine lv_icmp_gt (tgt := 54) hx hb dX7_number_6 (by decide) (fun cc1 => ?_) (fun cc1 => ?_)
  · have h := (if_pos cc1).symm.trans h
    exact ww_f7_number_b54 C0 f0 l2 l3 h _ _ _ hPD hS (lv_sub hl [0, 1, 2, 3] rfl)
  · have h := (if_neg cc1).symm.trans h
    refine lv_aload_n hx hb dX7_number_9 rfl (lv_at hl 0 rfl) ?_
    refine kVI (As := []) (rest := []) C0 (kt_X7_look l G h0 a0 f0 A0) gi_V_X7_39_X7_look (n := 0) rfl (by decide +kernel) rfl ⟨rfl, rfl, Nat.le_of_ble_eq_true rfl, Nat.le_of_ble_eq_true rfl⟩ hPD hS 0 7 rfl rfl rfl [0, 1] [] [0, 1] (wN := (wX7 G h0 a0 f0 A0)) rfl rfl rfl rfl rfl hl.1 (Nat.le_of_ble_eq_true rfl) dX7_number_10 (fun H locs hPD hS => ?_)
    obtain ⟨q_2, hq_2, h⟩ := ob2 h
    refine kSI (As := [.int (f7_look f0 A0)]) (rest := []) C0 (kt_X7_isDigit l G  (f7_look f0 A0) hq_2) gi_S_X7_50_X7_isDigit (n := 1) rfl (by decide +kernel) ⟨rfl, rfl, Nat.le_of_ble_eq_true rfl, Nat.le_of_ble_eq_true rfl⟩ hPD hS [] [0, 1] [0, 1] (wN := (wX7 G h0 a0 f0 A0)) rfl rfl rfl rfl rfl hl.1 (Nat.le_of_ble_eq_true rfl) dX7_number_13 (fun H locs hPD hS => ?_)
    refine lv_if_eq (tgt := 54) hx hb dX7_number_16 (by decide) (fun cc1 => ?_) (fun cc1 => ?_)
    · have h := (if_pos cc1).symm.trans h
      exact ww_f7_number_b54 C0 f0 l2 l3 h _ _ _ hPD hS (lv_sub hl [0, 1, 2, 3] rfl)
    · have h := (if_neg cc1).symm.trans h
      refine lv_iload_n hx hb dX7_number_19 rfl (lv_at hl 3 rfl) ?_
      refine lv_iload_n hx hb dX7_number_20 rfl (lv_at hl 1 rfl) ?_
      refine lv_icmp_ne (tgt := 31) hx hb dX7_number_21 (by decide) (fun cc1 => ?_) (fun cc1 => ?_)
      · have h := (if_neg cc1).symm.trans h
        refine lv_iload_n hx hb dX7_number_31 rfl (lv_at hl 2 rfl) ?_
        refine lv_bipush (v := 10) hx hb dX7_number_32 (by decide) ?_
        refine lv_imul hx hb dX7_number_34 ?_
        refine lv_aload_n hx hb dX7_number_35 rfl (lv_at hl 0 rfl) ?_
        refine kVI (As := []) (rest := [.int (l2 * 10)]) C0 (kt_X7_look l G h0 a0 f0 A0) gi_V_X7_39_X7_look (n := 0) rfl (by decide +kernel) rfl ⟨rfl, rfl, Nat.le_of_ble_eq_true rfl, Nat.le_of_ble_eq_true rfl⟩ hPD hS 0 7 rfl rfl rfl [0, 1] [] [0, 1] (wN := (wX7 G h0 a0 f0 A0)) rfl rfl rfl rfl rfl hl.1 (Nat.le_of_ble_eq_true rfl) dX7_number_36 (fun H locs hPD hS => ?_)
        refine lv_iadd hx hb dX7_number_39 ?_
        refine lv_bipush (v := 48) hx hb dX7_number_40 (by decide) ?_
        refine lv_isub hx hb dX7_number_42 ?_
        refine lv_istore_n (lv' := [(2, .int (((l2 * 10) + (f7_look f0 A0)) - 48)), (0, .ref h0), (1, .int p1), (3, .int l3)]) hx hb dX7_number_43 rfl hl (by decide) rfl (fun ls hl => ?_)
        refine lv_iinc (v := l3 + 1) (lv' := [(3, .int (l3 + 1)), (2, .int (((l2 * 10) + (f7_look f0 A0)) - 48)), (0, .ref h0), (1, .int p1)]) hx hb dX7_number_44 hl (k := 3) rfl rfl (by decide) rfl (fun ls hl => ?_)
        refine lv_aload_n hx hb dX7_number_47 rfl (lv_at hl 2 rfl) ?_
        obtain ⟨z_3, ez_3, h⟩ := lvl h
        have kc := kt_X7_step l G h0 a0 f0 A0
        rw [← ez_3] at kc
        clear ez_3
        refine kVV (As := []) (rest := []) C0 (kc) gi_V_X7_47_X7_step (n := 0) rfl (by decide +kernel) rfl ⟨rfl, rfl, Nat.le_of_ble_eq_true rfl, Nat.le_of_ble_eq_true rfl⟩ hPD hS 0 7 rfl rfl rfl [0, 1] [] [0, 1] (wN := (wX7 G h0 a0 z_3 A0)) rfl rfl rfl rfl rfl hl.1 (Nat.le_of_ble_eq_true rfl) dX7_number_48 (fun H locs hPD hS => ?_)
        refine lv_goto (tgt := 4) hx hb dX7_number_51 (by decide) ?_
        exact hk4 z_3 (((l2 * 10) + (f7_look f0 A0)) - 48) (l3 + 1) h _ _ _ hPD hS (lv_sub hl [2, 3, 1, 0] rfl)
      · have h := (if_pos cc1).symm.trans h
        refine lv_aload_n hx hb dX7_number_24 rfl (lv_at hl 0 rfl) ?_
        refine lv_iconst (v := 2) hx hb dX7_number_25 (by decide) ?_
        obtain ⟨z_4, ez_4, h⟩ := lvl h
        have kc := kt_X7_fail l G h0 a0 f0 A0 2
        rw [← ez_4] at kc
        clear ez_4
        refine kVV (As := [.int 2]) (rest := []) C0 (kc) gi_V_X7_43_X7_fail (n := 1) rfl (by decide +kernel) rfl ⟨rfl, rfl, Nat.le_of_ble_eq_true rfl, Nat.le_of_ble_eq_true rfl⟩ hPD hS 0 7 rfl rfl rfl [0, 1] [] [0, 1] (wN := (wX7 G h0 a0 z_4 A0)) rfl rfl rfl rfl rfl hl.1 (Nat.le_of_ble_eq_true rfl) dX7_number_26 (fun H locs hPD hS => ?_)
        refine lv_iconst (v := 0) hx hb dX7_number_29 (by decide) ?_
        obtain rfl := Option.some.inj h
        exact eI C0 hPD.1 hPD.2 hS rfl dX7_number_30
set_option maxRecDepth 100000 in
set_option maxHeartbeats 4000000 in
theorem ww_f7_number_l4  (C0 : Cx cX7_number 4 (some .int) RX7 p s m args meth c G DA) {h0 : Nat} {a0 : Nat → Nat} {A0 : Nat → Nat → Int32} {p1 : Int32}   {res : Int32 × (Nat → Int32)}  : ∀ (n : Nat) (f0 : Nat → Int32) (l2 : Int32) (l3 : Int32), f7_number_l4 A0 p1  n f0 l2 l3 = some res → ∀ (H : Heap) (locs : List Loc) (ls : Array Slot), WD G DA (wX7 G h0 a0 f0 A0) H → va_S DA s.heap H locs → lv_has ls 4 [(0, .ref h0), (1, .int p1), (2, .int l2), (3, .int l3)] → W p l e rmX7_number s m args below meth c H locs 0 0 (MQ below (QI G DA res.1 (wX7 G h0 a0 res.2 A0)) args s 0 0 DA) (F0 m 4 ls []) := by
  intro n
  induction n with
  | zero => intro f0 l2 l3 h; cases h
  | succ n ih => intro f0 l2 l3 h; exact ww_f7_number_b4 C0  ih f0 l2 l3 h
set_option maxRecDepth 100000 in
set_option maxHeartbeats 4000000 in
theorem kt_X7_number (l : Launch) (G : Gp) (h0 : Nat) (a0 : Nat → Nat) (f0 : Nat → Int32) (A0 : Nat → Nat → Int32) (p1 : Int32) : ∀ {r : Int32 × (Nat → Int32)}, f7_number f0 A0 p1 = some r → CtrI l yX7_number cX7_number 4 (some .int) rmX7_number G [.ref h0, .int p1] (wX7 G h0 a0 f0 A0) r.1 (wX7 G h0 a0 r.2 A0) := by
  intro res h
  refine ctrI_of (cc := cX7_number) (maxL := 4) (ret := (some .int)) (by decide +kernel) rfl (Nat.le_of_ble_eq_true rfl) (fun p e s m below meth c DA C0 hP hD ls hl => ?_)
  have hPD : WD G DA (wX7 G h0 a0 f0 A0) s.heap := ⟨hP, hD⟩
  have hS : va_S DA s.heap s.heap [] := va_S.rf
  have hl : lv_has ls 4 [(0, .ref h0), (1, .int p1)] := hl
  obtain ⟨hx, hb, hml, hown, hts⟩ := C0.1
  have hK := C0.2.2.2.1
  unfold f7_number at h
  refine lv_iconst (v := 0) hx hb dX7_number_0 (by decide) ?_
  refine lv_istore_n (lv' := [(2, .int 0), (0, .ref h0), (1, .int p1)]) hx hb dX7_number_1 rfl hl (by decide) rfl (fun ls hl => ?_)
  refine lv_iconst (v := 0) hx hb dX7_number_2 (by decide) ?_
  refine lv_istore_n (lv' := [(3, .int 0), (2, .int 0), (0, .ref h0), (1, .int p1)]) hx hb dX7_number_3 rfl hl (by decide) rfl (fun ls hl => ?_)
  exact ww_f7_number_l4 C0 NF f0 0 0 h _ _ _ hPD hS (lv_sub hl [2, 3, 1, 0] rfl)
abbrev rmX2_letterOf : Room := { frames := 0, cells := 0, slots := 0, locals := 0 }
set_option maxRecDepth 100000 in
set_option maxHeartbeats 4000000 in
theorem kt_X2_letterOf (l : Launch) (G : Gp) (p0 : Int32) : CtrI l yX2_letterOf cX2_letterOf 1 (some .int) rmX2_letterOf G [.int p0] ([] : va_W) (f2_letterOf p0) ([] : va_W) := by
  obtain ⟨res, h⟩ : ∃ res, f2_letterOf p0 = res := ⟨_, rfl⟩
  rw [h]
  refine ctrI_of (cc := cX2_letterOf) (maxL := 1) (ret := (some .int)) (by decide +kernel) rfl (Nat.le_of_ble_eq_true rfl) (fun p e s m below meth c DA C0 hP hD ls hl => ?_)
  have hPD : WD G DA ([] : va_W) s.heap := ⟨hP, hD⟩
  have hS : va_S DA s.heap s.heap [] := va_S.rf
  have hl : lv_has ls 1 [(0, .int p0)] := hl
  obtain ⟨hx, hb, hml, hown, hts⟩ := C0.1
  have hK := C0.2.2.2.1
  unfold f2_letterOf at h
  refine lv_iload_n hx hb dX2_letterOf_0 rfl (lv_at hl 0 rfl) ?_
  by_cases cc99 : p0 = 99
  · have h := (if_pos cc99).symm.trans h
    refine lv_swT (tgt := 94) (k := 99) hx hb dX2_letterOf_1 cc99 (by decide) (by decide) ?_
    refine lv_iconst (v := 3) hx hb dX2_letterOf_94 (by decide) ?_
    subst h
    exact eI C0 hPD.1 hPD.2 hS rfl dX2_letterOf_95
  have h := (if_neg cc99).symm.trans h
  by_cases cc100 : p0 = 100
  · have h := (if_pos cc100).symm.trans h
    refine lv_swT (tgt := 103) (k := 100) hx hb dX2_letterOf_1 cc100 (by decide) (by decide) ?_
    refine lv_bipush (v := 7) hx hb dX2_letterOf_103 (by decide) ?_
    subst h
    exact eI C0 hPD.1 hPD.2 hS rfl dX2_letterOf_105
  have h := (if_neg cc100).symm.trans h
  by_cases cc103 : p0 = 103
  · have h := (if_pos cc103).symm.trans h
    refine lv_swT (tgt := 92) (k := 103) hx hb dX2_letterOf_1 cc103 (by decide) (by decide) ?_
    refine lv_iconst (v := 2) hx hb dX2_letterOf_92 (by decide) ?_
    subst h
    exact eI C0 hPD.1 hPD.2 hS rfl dX2_letterOf_93
  have h := (if_neg cc103).symm.trans h
  by_cases cc104 : p0 = 104
  · have h := (if_pos cc104).symm.trans h
    refine lv_swT (tgt := 100) (k := 104) hx hb dX2_letterOf_1 cc104 (by decide) (by decide) ?_
    refine lv_bipush (v := 6) hx hb dX2_letterOf_100 (by decide) ?_
    subst h
    exact eI C0 hPD.1 hPD.2 hS rfl dX2_letterOf_102
  have h := (if_neg cc104).symm.trans h
  by_cases cc108 : p0 = 108
  · have h := (if_pos cc108).symm.trans h
    refine lv_swT (tgt := 98) (k := 108) hx hb dX2_letterOf_1 cc108 (by decide) (by decide) ?_
    refine lv_iconst (v := 5) hx hb dX2_letterOf_98 (by decide) ?_
    subst h
    exact eI C0 hPD.1 hPD.2 hS rfl dX2_letterOf_99
  have h := (if_neg cc108).symm.trans h
  by_cases cc110 : p0 = 110
  · have h := (if_pos cc110).symm.trans h
    refine lv_swT (tgt := 96) (k := 110) hx hb dX2_letterOf_1 cc110 (by decide) (by decide) ?_
    refine lv_iconst (v := 4) hx hb dX2_letterOf_96 (by decide) ?_
    subst h
    exact eI C0 hPD.1 hPD.2 hS rfl dX2_letterOf_97
  have h := (if_neg cc110).symm.trans h
  by_cases cc112 : p0 = 112
  · have h := (if_pos cc112).symm.trans h
    refine lv_swT (tgt := 88) (k := 112) hx hb dX2_letterOf_1 cc112 (by decide) (by decide) ?_
    refine lv_iconst (v := 0) hx hb dX2_letterOf_88 (by decide) ?_
    subst h
    exact eI C0 hPD.1 hPD.2 hS rfl dX2_letterOf_89
  have h := (if_neg cc112).symm.trans h
  by_cases cc116 : p0 = 116
  · have h := (if_pos cc116).symm.trans h
    refine lv_swT (tgt := 90) (k := 116) hx hb dX2_letterOf_1 cc116 (by decide) (by decide) ?_
    refine lv_iconst (v := 1) hx hb dX2_letterOf_90 (by decide) ?_
    subst h
    exact eI C0 hPD.1 hPD.2 hS rfl dX2_letterOf_91
  have h := (if_neg cc116).symm.trans h
  refine lv_swTD (tgt := 106) (ks := [99, 100, 103, 104, 108, 110, 112, 116]) hx hb dX2_letterOf_1 (by decide) (by decide) ⟨cc99, cc100, cc103, cc104, cc108, cc110, cc112, cc116, trivial⟩ (by decide) ?_
  refine lv_iconst (v := (-1)) hx hb dX2_letterOf_106 (by decide) ?_
  subst h
  exact eI C0 hPD.1 hPD.2 hS rfl dX2_letterOf_107
abbrev rmGX2_anyOf (d : Nat) : Room := { frames := d + 4, cells := 0, slots := 0, locals := 24 * d + 85 }
set_option maxRecDepth 100000 in
set_option maxHeartbeats 4000000 in
theorem ww_f2_anyOf_b8 {d : Nat} {rec : Nat → (Nat → Int32) → (Nat → Nat → Int32) → (Nat → Int32) → (Nat → Nat → Int32) → Int32 → Option ((Nat → Nat → Int32) × (Nat → Int32) × (Nat → Int32))} (hrec0 : ∀ (l : Launch) (G : Gp) (h0 : Nat) (a0 : Nat → Nat) (h1 : Nat) (a1 : Nat → Nat) (f0 : Nat → Int32) (A0 : Nat → Nat → Int32) (f1 : Nat → Int32) (A1 : Nat → Nat → Int32) (p2 : Int32), ∀ {r : (Nat → Nat → Int32) × (Nat → Int32) × (Nat → Int32)}, rec 0 f0 A0 f1 A1 p2 = some r → CtrV l yX2_anyOf cX2_anyOf 5 none (rmGX2_anyOf d) G [.ref h0, .ref h1, .int p2] (wX2 G h0 a0 f0 A0 ++ (wX7 G h1 a1 f1 A1)) (wX2 G h0 a0 r.2.1 r.1 ++ (wX7 G h1 a1 r.2.2 A1))) (hrec1 : ∀ (l : Launch) (G : Gp) (h0 : Nat) (a0 : Nat → Nat) (h1 : Nat) (a1 : Nat → Nat) (f0 : Nat → Int32) (A0 : Nat → Nat → Int32) (f1 : Nat → Int32) (A1 : Nat → Nat → Int32) (p2 : Int32), ∀ {r : (Nat → Nat → Int32) × (Nat → Int32) × (Nat → Int32)}, rec 1 f0 A0 f1 A1 p2 = some r → CtrV l yX2_allOf cX2_allOf 5 none (rmGX2_anyOf d) G [.ref h0, .ref h1, .int p2] (wX2 G h0 a0 f0 A0 ++ (wX7 G h1 a1 f1 A1)) (wX2 G h0 a0 r.2.1 r.1 ++ (wX7 G h1 a1 r.2.2 A1))) (hrec2 : ∀ (l : Launch) (G : Gp) (h0 : Nat) (a0 : Nat → Nat) (h1 : Nat) (a1 : Nat → Nat) (f0 : Nat → Int32) (A0 : Nat → Nat → Int32) (f1 : Nat → Int32) (A1 : Nat → Nat → Int32) (p2 : Int32), ∀ {r : (Nat → Nat → Int32) × (Nat → Int32) × (Nat → Int32)}, rec 2 f0 A0 f1 A1 p2 = some r → CtrV l yX2_test cX2_test 5 none (rmGX2_anyOf d) G [.ref h0, .ref h1, .int p2] (wX2 G h0 a0 f0 A0 ++ (wX7 G h1 a1 f1 A1)) (wX2 G h0 a0 r.2.1 r.1 ++ (wX7 G h1 a1 r.2.2 A1))) (hrec3 : ∀ (l : Launch) (G : Gp) (h0 : Nat) (a0 : Nat → Nat) (h1 : Nat) (a1 : Nat → Nat) (f0 : Nat → Int32) (A0 : Nat → Nat → Int32) (f1 : Nat → Int32) (A1 : Nat → Nat → Int32) (p2 : Int32), ∀ {r : (Nat → Nat → Int32) × (Nat → Int32) × (Nat → Int32)}, rec 3 f0 A0 f1 A1 p2 = some r → CtrV l yX2_sum cX2_sum 5 none (rmGX2_anyOf d) G [.ref h0, .ref h1, .int p2] (wX2 G h0 a0 f0 A0 ++ (wX7 G h1 a1 f1 A1)) (wX2 G h0 a0 r.2.1 r.1 ++ (wX7 G h1 a1 r.2.2 A1))) (hrec4 : ∀ (l : Launch) (G : Gp) (h0 : Nat) (a0 : Nat → Nat) (h1 : Nat) (a1 : Nat → Nat) (f0 : Nat → Int32) (A0 : Nat → Nat → Int32) (f1 : Nat → Int32) (A1 : Nat → Nat → Int32) (p2 : Int32), ∀ {r : (Nat → Nat → Int32) × (Nat → Int32) × (Nat → Int32)}, rec 4 f0 A0 f1 A1 p2 = some r → CtrV l yX2_term cX2_term 5 none (rmGX2_anyOf d) G [.ref h0, .ref h1, .int p2] (wX2 G h0 a0 f0 A0 ++ (wX7 G h1 a1 f1 A1)) (wX2 G h0 a0 r.2.1 r.1 ++ (wX7 G h1 a1 r.2.2 A1))) (hrec5 : ∀ (l : Launch) (G : Gp) (h0 : Nat) (a0 : Nat → Nat) (h1 : Nat) (a1 : Nat → Nat) (f0 : Nat → Int32) (A0 : Nat → Nat → Int32) (f1 : Nat → Int32) (A1 : Nat → Nat → Int32) (p2 : Int32), ∀ {r : (Nat → Nat → Int32) × (Nat → Int32) × (Nat → Int32)}, rec 5 f0 A0 f1 A1 p2 = some r → CtrV l yX2_factor cX2_factor 4 none (rmGX2_anyOf d) G [.ref h0, .ref h1, .int p2] (wX2 G h0 a0 f0 A0 ++ (wX7 G h1 a1 f1 A1)) (wX2 G h0 a0 r.2.1 r.1 ++ (wX7 G h1 a1 r.2.2 A1))) (hdd : True)  (C0 : Cx cX2_anyOf 5 none RX2 p s m args meth c G DA) {h0 : Nat} {a0 : Nat → Nat} {h1 : Nat} {a1 : Nat → Nat} {A1 : Nat → Nat → Int32} {p2 : Int32}  {k8 : (Nat → Nat → Int32) → (Nat → Int32) → (Nat → Int32) → Int32 → Option ((Nat → Nat → Int32) × (Nat → Int32) × (Nat → Int32))} {res : (Nat → Nat → Int32) × (Nat → Int32) × (Nat → Int32)}  (hk8 : ∀ (A0 : Nat → Nat → Int32) (f0 : Nat → Int32) (f1 : Nat → Int32) (l3 : Int32), k8 A0 f0 f1 l3 = some res → ∀ (H : Heap) (locs : List Loc) (ls : Array Slot), WD G DA (wX2 G h0 a0 f0 A0 ++ (wX7 G h1 a1 f1 A1)) H → va_S DA s.heap H locs → lv_has ls 5 [(0, .ref h0), (1, .ref h1), (2, .int p2), (3, .int l3)] → W p l e (rmGX2_anyOf (d + 1)) s m args below meth c H locs 0 0 (MQ below (QV G DA (wX2 G h0 a0 res.2.1 res.1 ++ (wX7 G h1 a1 res.2.2 A1))) args s 0 0 DA) (F0 m 8 ls [])) : ∀ (A0 : Nat → Nat → Int32) (f0 : Nat → Int32) (f1 : Nat → Int32) (l3 : Int32), f2_anyOf_b8 rec A1 p2  k8 A0 f0 f1 l3 = some res → ∀ (H : Heap) (locs : List Loc) (ls : Array Slot), WD G DA (wX2 G h0 a0 f0 A0 ++ (wX7 G h1 a1 f1 A1)) H → va_S DA s.heap H locs → lv_has ls 5 [(0, .ref h0), (1, .ref h1), (2, .int p2), (3, .int l3)] → W p l e (rmGX2_anyOf (d + 1)) s m args below meth c H locs 0 0 (MQ below (QV G DA (wX2 G h0 a0 res.2.1 res.1 ++ (wX7 G h1 a1 res.2.2 A1))) args s 0 0 DA) (F0 m 8 ls []) := by
  obtain ⟨hx, hb, hml, hown, hts⟩ := C0.1
  have hK := C0.2.2.2.1
  intro A0 f0 f1 l3 h _ _ _ hPD hS hl
  unfold f2_anyOf_b8 at h
  refine lv_iload_n hx hb dX2_anyOf_8 rfl (lv_at hl 3 rfl) ?_
  refine lv_sipush (v := 240) hx hb dX2_anyOf_9 (by decide) ?_
  refine lv_icmp_ge (tgt := 68) hx hb dX2_anyOf_12 (by decide) (fun cc1 => ?_) (fun cc1 => ?_)
  · have h := (if_pos cc1).symm.trans h
    obtain rfl := Option.some.inj h
    exact eV C0 hPD.1 hPD.2 hS dX2_anyOf_68
  · have h := (if_neg cc1).symm.trans h
    refine lv_aload_n hx hb dX2_anyOf_15 rfl (lv_at hl 1 rfl) ?_
    refine kVI (As := []) (rest := []) C0 (kt_X7_isFine l G h1 a1 f1 A1) gi_V_X2_73_X7_isFine (n := 0) rfl (by decide +kernel) rfl ⟨rfl, rfl, by simp only [rmGX2_anyOf, rmX7_isFine]; omega, by simp only [rmGX2_anyOf, rmX7_isFine]; omega⟩ hPD hS 8 7 rfl rfl rfl [8, 9] [0, 1, 2, 3, 4, 5, 6, 7] [0, 1, 2, 3, 4, 5, 6, 7, 8, 9] (wN := (wX2 G h0 a0 f0 A0 ++ (wX7 G h1 a1 f1 A1))) rfl rfl rfl rfl rfl hl.1 (Nat.le_of_ble_eq_true rfl) dX2_anyOf_16 (fun H locs hPD hS => ?_)
    refine lv_if_eq (tgt := 68) hx hb dX2_anyOf_19 (by decide) (fun cc1 => ?_) (fun cc1 => ?_)
    · have h := (if_pos cc1).symm.trans h
      obtain rfl := Option.some.inj h
      exact eV C0 hPD.1 hPD.2 hS dX2_anyOf_68
    · have h := (if_neg cc1).symm.trans h
      refine lv_aload_n hx hb dX2_anyOf_22 rfl (lv_at hl 1 rfl) ?_
      refine kVI (As := []) (rest := []) C0 (kt_X7_look l G h1 a1 f1 A1) gi_V_X2_54_X7_look (n := 0) rfl (by decide +kernel) rfl ⟨rfl, rfl, by simp only [rmGX2_anyOf, rmX7_look]; omega, by simp only [rmGX2_anyOf, rmX7_look]; omega⟩ hPD hS 8 7 rfl rfl rfl [8, 9] [0, 1, 2, 3, 4, 5, 6, 7] [0, 1, 2, 3, 4, 5, 6, 7, 8, 9] (wN := (wX2 G h0 a0 f0 A0 ++ (wX7 G h1 a1 f1 A1))) rfl rfl rfl rfl rfl hl.1 (Nat.le_of_ble_eq_true rfl) dX2_anyOf_23 (fun H locs hPD hS => ?_)
      refine lv_bipush (v := 124) hx hb dX2_anyOf_26 (by decide) ?_
      refine lv_icmp_ne (tgt := 68) hx hb dX2_anyOf_28 (by decide) (fun cc1 => ?_) (fun cc1 => ?_)
      · have h := (if_neg cc1).symm.trans h
        obtain rfl := Option.some.inj h
        exact eV C0 hPD.1 hPD.2 hS dX2_anyOf_68
      · have h := (if_pos cc1).symm.trans h
        refine lv_aload_n hx hb dX2_anyOf_31 rfl (lv_at hl 1 rfl) ?_
        obtain ⟨z_2, ez_2, h⟩ := lvl h
        have kc := kt_X7_step l G h1 a1 f1 A1
        rw [← ez_2] at kc
        clear ez_2
        refine kVV (As := []) (rest := []) C0 (kc) gi_V_X2_62_X7_step (n := 0) rfl (by decide +kernel) rfl ⟨rfl, rfl, by simp only [rmGX2_anyOf, rmX7_step]; omega, by simp only [rmGX2_anyOf, rmX7_step]; omega⟩ hPD hS 8 7 rfl rfl rfl [8, 9] [0, 1, 2, 3, 4, 5, 6, 7] [0, 1, 2, 3, 4, 5, 6, 7, 8, 9] (wN := (wX2 G h0 a0 f0 A0 ++ (wX7 G h1 a1 z_2 A1))) rfl rfl rfl rfl rfl hl.1 (Nat.le_of_ble_eq_true rfl) dX2_anyOf_32 (fun H locs hPD hS => ?_)
        refine lv_aload_n hx hb dX2_anyOf_35 rfl (lv_at hl 0 rfl) ?_
        refine lv_iconst (v := 5) hx hb dX2_anyOf_36 (by decide) ?_
        refine lv_iconst (v := 0) hx hb dX2_anyOf_37 (by decide) ?_
        obtain ⟨q_3, hq_3, h⟩ := ob2 h
        refine kVI (As := [.int 5, .int 0]) (rest := []) C0 (kt_X2_order l G h0 a0 f0 A0 5 0 hq_3) gi_V_X2_89_X2_order (n := 2) rfl (by decide +kernel) rfl ⟨rfl, rfl, by simp only [rmGX2_anyOf, rmX2_order]; omega, by simp only [rmGX2_anyOf, rmX2_order]; omega⟩ hPD hS 0 2 rfl rfl rfl [0, 1, 2, 3, 4, 5, 6, 7] [8, 9] [2, 3, 4, 5, 6, 7, 8, 9, 0, 1] (wN := (wX2 G h0 a0 q_3.2.2 q_3.2.1 ++ (wX7 G h1 a1 z_2 A1))) rfl rfl rfl rfl rfl hl.1 (Nat.le_of_ble_eq_true rfl) dX2_anyOf_38 (fun H locs hPD hS => ?_)
        refine lv_istore (lv' := [(4, .int q_3.1), (0, .ref h0), (1, .ref h1), (2, .int p2), (3, .int l3)]) hx hb dX2_anyOf_41 hl (by decide) rfl (fun ls hl => ?_)
        refine lv_aload_n hx hb dX2_anyOf_43 rfl (lv_at hl 1 rfl) ?_
        refine lv_aload_n hx hb dX2_anyOf_44 rfl (lv_at hl 2 rfl) ?_
        refine lv_iload_n hx hb dX2_anyOf_45 rfl (lv_at hl 3 rfl) ?_
        obtain ⟨q_4, hq_4, h⟩ := ob2 h
        refine kVV (As := [.ref h1, .int p2]) (rest := []) C0 (hrec1 l G h0 a0 h1 a1 q_3.2.2 q_3.2.1 z_2 A1 p2 hq_4) gi_V_X2_86_X2_allOf (n := 2) rfl (by decide +kernel) rfl ⟨rfl, rfl, by simp only [rmGX2_anyOf]; omega, by simp only [rmGX2_anyOf]; omega⟩ hPD hS 0 2 rfl rfl rfl [0, 1, 2, 3, 4, 5, 6, 7, 8, 9] [] [0, 1, 2, 3, 4, 5, 6, 7, 8, 9] (wN := (wX2 G h0 a0 q_4.2.1 q_4.1 ++ (wX7 G h1 a1 q_4.2.2 A1))) rfl rfl rfl rfl rfl hl.1 (Nat.le_of_ble_eq_true rfl) dX2_anyOf_46 (fun H locs hPD hS => ?_)
        refine lv_aload_n hx hb dX2_anyOf_49 rfl (lv_at hl 1 rfl) ?_
        refine va_get (D := G.1) (ci := 2) (v := .ref (a0 1)) (C := RX2) (T := TX2) (N := 10) hx hb hts inlX2 hown hK hPD.1 0 rfl rfl 1 (by decide) (hts _ gw_130) (fun _ h9 => h9) rfl dX2_anyOf_50 ?_
        refine lv_iload hx hb dX2_anyOf_53 (lv_at hl 0 rfl) ?_
        refine lv_aload_n hx hb dX2_anyOf_55 rfl (lv_at hl 1 rfl) ?_
        refine va_get (D := G.1) (ci := 2) (v := .int (q_4.2.1 7)) (C := RX2) (T := TX2) (N := 10) hx hb hts inlX2 hown hK hPD.1 0 rfl rfl 7 (by decide) (hts _ gw_129) (fun _ h9 => h9) rfl dX2_anyOf_56 ?_
        obtain ⟨z_5, ez_5, h⟩ := lvl h
        have kc := kt_X9_put l G (a0 1) 240 (q_4.1 1) q_3.1 (q_4.2.1 7) (by decide)
        rw [← ez_5] at kc
        clear ez_5
        refine kNV (As := [.ref (a0 1), .int q_3.1, .int (q_4.2.1 7)]) (rest := []) C0 (kc) gi_U_X9_put (host := "IdleCrimes") (index := 65) (List.mem_of_getElem? (i := 12) rfl) gw_6 gw_19 (n := 3) rfl (by decide +kernel) ⟨rfl, rfl, by simp only [rmGX2_anyOf, rmX9_put]; omega, by simp only [rmGX2_anyOf, rmX9_put]; omega⟩ hPD hS [2] [0, 1, 3, 4, 5, 6, 7, 8, 9] [0, 1, 9, 2, 3, 4, 5, 6, 7, 8] (wN := (wX2 G h0 a0 q_4.2.1 (updA q_4.1 1 z_5) ++ (wX7 G h1 a1 q_4.2.2 A1))) rfl rfl rfl rfl rfl hl.1 (Nat.le_of_ble_eq_true rfl) dX2_anyOf_59 (fun H locs hPD hS => ?_)
        obtain ⟨A0_6, eA0_6, h⟩ := lvl h
        have hPD : WD G DA (wX2 G h0 a0 q_4.2.1 A0_6 ++ (wX7 G h1 a1 q_4.2.2 A1)) H := by rw [eA0_6]; exact hPD
        clear eA0_6
        refine lv_iinc (v := l3 + 1) (lv' := [(3, .int (l3 + 1)), (4, .int q_3.1), (0, .ref h0), (1, .ref h1), (2, .int p2)]) hx hb dX2_anyOf_62 hl (k := 4) rfl rfl (by decide) rfl (fun ls hl => ?_)
        refine lv_goto (tgt := 8) hx hb dX2_anyOf_65 (by decide) ?_
        exact hk8 A0_6 q_4.2.1 q_4.2.2 (l3 + 1) h _ _ _ hPD hS (lv_sub hl [2, 3, 4, 0] rfl)
set_option maxRecDepth 100000 in
set_option maxHeartbeats 4000000 in
theorem ww_f2_anyOf_l8 {d : Nat} {rec : Nat → (Nat → Int32) → (Nat → Nat → Int32) → (Nat → Int32) → (Nat → Nat → Int32) → Int32 → Option ((Nat → Nat → Int32) × (Nat → Int32) × (Nat → Int32))} (hrec0 : ∀ (l : Launch) (G : Gp) (h0 : Nat) (a0 : Nat → Nat) (h1 : Nat) (a1 : Nat → Nat) (f0 : Nat → Int32) (A0 : Nat → Nat → Int32) (f1 : Nat → Int32) (A1 : Nat → Nat → Int32) (p2 : Int32), ∀ {r : (Nat → Nat → Int32) × (Nat → Int32) × (Nat → Int32)}, rec 0 f0 A0 f1 A1 p2 = some r → CtrV l yX2_anyOf cX2_anyOf 5 none (rmGX2_anyOf d) G [.ref h0, .ref h1, .int p2] (wX2 G h0 a0 f0 A0 ++ (wX7 G h1 a1 f1 A1)) (wX2 G h0 a0 r.2.1 r.1 ++ (wX7 G h1 a1 r.2.2 A1))) (hrec1 : ∀ (l : Launch) (G : Gp) (h0 : Nat) (a0 : Nat → Nat) (h1 : Nat) (a1 : Nat → Nat) (f0 : Nat → Int32) (A0 : Nat → Nat → Int32) (f1 : Nat → Int32) (A1 : Nat → Nat → Int32) (p2 : Int32), ∀ {r : (Nat → Nat → Int32) × (Nat → Int32) × (Nat → Int32)}, rec 1 f0 A0 f1 A1 p2 = some r → CtrV l yX2_allOf cX2_allOf 5 none (rmGX2_anyOf d) G [.ref h0, .ref h1, .int p2] (wX2 G h0 a0 f0 A0 ++ (wX7 G h1 a1 f1 A1)) (wX2 G h0 a0 r.2.1 r.1 ++ (wX7 G h1 a1 r.2.2 A1))) (hrec2 : ∀ (l : Launch) (G : Gp) (h0 : Nat) (a0 : Nat → Nat) (h1 : Nat) (a1 : Nat → Nat) (f0 : Nat → Int32) (A0 : Nat → Nat → Int32) (f1 : Nat → Int32) (A1 : Nat → Nat → Int32) (p2 : Int32), ∀ {r : (Nat → Nat → Int32) × (Nat → Int32) × (Nat → Int32)}, rec 2 f0 A0 f1 A1 p2 = some r → CtrV l yX2_test cX2_test 5 none (rmGX2_anyOf d) G [.ref h0, .ref h1, .int p2] (wX2 G h0 a0 f0 A0 ++ (wX7 G h1 a1 f1 A1)) (wX2 G h0 a0 r.2.1 r.1 ++ (wX7 G h1 a1 r.2.2 A1))) (hrec3 : ∀ (l : Launch) (G : Gp) (h0 : Nat) (a0 : Nat → Nat) (h1 : Nat) (a1 : Nat → Nat) (f0 : Nat → Int32) (A0 : Nat → Nat → Int32) (f1 : Nat → Int32) (A1 : Nat → Nat → Int32) (p2 : Int32), ∀ {r : (Nat → Nat → Int32) × (Nat → Int32) × (Nat → Int32)}, rec 3 f0 A0 f1 A1 p2 = some r → CtrV l yX2_sum cX2_sum 5 none (rmGX2_anyOf d) G [.ref h0, .ref h1, .int p2] (wX2 G h0 a0 f0 A0 ++ (wX7 G h1 a1 f1 A1)) (wX2 G h0 a0 r.2.1 r.1 ++ (wX7 G h1 a1 r.2.2 A1))) (hrec4 : ∀ (l : Launch) (G : Gp) (h0 : Nat) (a0 : Nat → Nat) (h1 : Nat) (a1 : Nat → Nat) (f0 : Nat → Int32) (A0 : Nat → Nat → Int32) (f1 : Nat → Int32) (A1 : Nat → Nat → Int32) (p2 : Int32), ∀ {r : (Nat → Nat → Int32) × (Nat → Int32) × (Nat → Int32)}, rec 4 f0 A0 f1 A1 p2 = some r → CtrV l yX2_term cX2_term 5 none (rmGX2_anyOf d) G [.ref h0, .ref h1, .int p2] (wX2 G h0 a0 f0 A0 ++ (wX7 G h1 a1 f1 A1)) (wX2 G h0 a0 r.2.1 r.1 ++ (wX7 G h1 a1 r.2.2 A1))) (hrec5 : ∀ (l : Launch) (G : Gp) (h0 : Nat) (a0 : Nat → Nat) (h1 : Nat) (a1 : Nat → Nat) (f0 : Nat → Int32) (A0 : Nat → Nat → Int32) (f1 : Nat → Int32) (A1 : Nat → Nat → Int32) (p2 : Int32), ∀ {r : (Nat → Nat → Int32) × (Nat → Int32) × (Nat → Int32)}, rec 5 f0 A0 f1 A1 p2 = some r → CtrV l yX2_factor cX2_factor 4 none (rmGX2_anyOf d) G [.ref h0, .ref h1, .int p2] (wX2 G h0 a0 f0 A0 ++ (wX7 G h1 a1 f1 A1)) (wX2 G h0 a0 r.2.1 r.1 ++ (wX7 G h1 a1 r.2.2 A1))) (hdd : True)  (C0 : Cx cX2_anyOf 5 none RX2 p s m args meth c G DA) {h0 : Nat} {a0 : Nat → Nat} {h1 : Nat} {a1 : Nat → Nat} {A1 : Nat → Nat → Int32} {p2 : Int32}   {res : (Nat → Nat → Int32) × (Nat → Int32) × (Nat → Int32)}  : ∀ (n : Nat) (A0 : Nat → Nat → Int32) (f0 : Nat → Int32) (f1 : Nat → Int32) (l3 : Int32), f2_anyOf_l8 rec A1 p2  n A0 f0 f1 l3 = some res → ∀ (H : Heap) (locs : List Loc) (ls : Array Slot), WD G DA (wX2 G h0 a0 f0 A0 ++ (wX7 G h1 a1 f1 A1)) H → va_S DA s.heap H locs → lv_has ls 5 [(0, .ref h0), (1, .ref h1), (2, .int p2), (3, .int l3)] → W p l e (rmGX2_anyOf (d + 1)) s m args below meth c H locs 0 0 (MQ below (QV G DA (wX2 G h0 a0 res.2.1 res.1 ++ (wX7 G h1 a1 res.2.2 A1))) args s 0 0 DA) (F0 m 8 ls []) := by
  intro n
  induction n with
  | zero => intro A0 f0 f1 l3 h; cases h
  | succ n ih => intro A0 f0 f1 l3 h; exact ww_f2_anyOf_b8 hrec0 hrec1 hrec2 hrec3 hrec4 hrec5 hdd C0  ih A0 f0 f1 l3 h
set_option maxRecDepth 100000 in
set_option maxHeartbeats 4000000 in
theorem ko_X2_anyOf {d : Nat} {rec : Nat → (Nat → Int32) → (Nat → Nat → Int32) → (Nat → Int32) → (Nat → Nat → Int32) → Int32 → Option ((Nat → Nat → Int32) × (Nat → Int32) × (Nat → Int32))} (hrec0 : ∀ (l : Launch) (G : Gp) (h0 : Nat) (a0 : Nat → Nat) (h1 : Nat) (a1 : Nat → Nat) (f0 : Nat → Int32) (A0 : Nat → Nat → Int32) (f1 : Nat → Int32) (A1 : Nat → Nat → Int32) (p2 : Int32), ∀ {r : (Nat → Nat → Int32) × (Nat → Int32) × (Nat → Int32)}, rec 0 f0 A0 f1 A1 p2 = some r → CtrV l yX2_anyOf cX2_anyOf 5 none (rmGX2_anyOf d) G [.ref h0, .ref h1, .int p2] (wX2 G h0 a0 f0 A0 ++ (wX7 G h1 a1 f1 A1)) (wX2 G h0 a0 r.2.1 r.1 ++ (wX7 G h1 a1 r.2.2 A1))) (hrec1 : ∀ (l : Launch) (G : Gp) (h0 : Nat) (a0 : Nat → Nat) (h1 : Nat) (a1 : Nat → Nat) (f0 : Nat → Int32) (A0 : Nat → Nat → Int32) (f1 : Nat → Int32) (A1 : Nat → Nat → Int32) (p2 : Int32), ∀ {r : (Nat → Nat → Int32) × (Nat → Int32) × (Nat → Int32)}, rec 1 f0 A0 f1 A1 p2 = some r → CtrV l yX2_allOf cX2_allOf 5 none (rmGX2_anyOf d) G [.ref h0, .ref h1, .int p2] (wX2 G h0 a0 f0 A0 ++ (wX7 G h1 a1 f1 A1)) (wX2 G h0 a0 r.2.1 r.1 ++ (wX7 G h1 a1 r.2.2 A1))) (hrec2 : ∀ (l : Launch) (G : Gp) (h0 : Nat) (a0 : Nat → Nat) (h1 : Nat) (a1 : Nat → Nat) (f0 : Nat → Int32) (A0 : Nat → Nat → Int32) (f1 : Nat → Int32) (A1 : Nat → Nat → Int32) (p2 : Int32), ∀ {r : (Nat → Nat → Int32) × (Nat → Int32) × (Nat → Int32)}, rec 2 f0 A0 f1 A1 p2 = some r → CtrV l yX2_test cX2_test 5 none (rmGX2_anyOf d) G [.ref h0, .ref h1, .int p2] (wX2 G h0 a0 f0 A0 ++ (wX7 G h1 a1 f1 A1)) (wX2 G h0 a0 r.2.1 r.1 ++ (wX7 G h1 a1 r.2.2 A1))) (hrec3 : ∀ (l : Launch) (G : Gp) (h0 : Nat) (a0 : Nat → Nat) (h1 : Nat) (a1 : Nat → Nat) (f0 : Nat → Int32) (A0 : Nat → Nat → Int32) (f1 : Nat → Int32) (A1 : Nat → Nat → Int32) (p2 : Int32), ∀ {r : (Nat → Nat → Int32) × (Nat → Int32) × (Nat → Int32)}, rec 3 f0 A0 f1 A1 p2 = some r → CtrV l yX2_sum cX2_sum 5 none (rmGX2_anyOf d) G [.ref h0, .ref h1, .int p2] (wX2 G h0 a0 f0 A0 ++ (wX7 G h1 a1 f1 A1)) (wX2 G h0 a0 r.2.1 r.1 ++ (wX7 G h1 a1 r.2.2 A1))) (hrec4 : ∀ (l : Launch) (G : Gp) (h0 : Nat) (a0 : Nat → Nat) (h1 : Nat) (a1 : Nat → Nat) (f0 : Nat → Int32) (A0 : Nat → Nat → Int32) (f1 : Nat → Int32) (A1 : Nat → Nat → Int32) (p2 : Int32), ∀ {r : (Nat → Nat → Int32) × (Nat → Int32) × (Nat → Int32)}, rec 4 f0 A0 f1 A1 p2 = some r → CtrV l yX2_term cX2_term 5 none (rmGX2_anyOf d) G [.ref h0, .ref h1, .int p2] (wX2 G h0 a0 f0 A0 ++ (wX7 G h1 a1 f1 A1)) (wX2 G h0 a0 r.2.1 r.1 ++ (wX7 G h1 a1 r.2.2 A1))) (hrec5 : ∀ (l : Launch) (G : Gp) (h0 : Nat) (a0 : Nat → Nat) (h1 : Nat) (a1 : Nat → Nat) (f0 : Nat → Int32) (A0 : Nat → Nat → Int32) (f1 : Nat → Int32) (A1 : Nat → Nat → Int32) (p2 : Int32), ∀ {r : (Nat → Nat → Int32) × (Nat → Int32) × (Nat → Int32)}, rec 5 f0 A0 f1 A1 p2 = some r → CtrV l yX2_factor cX2_factor 4 none (rmGX2_anyOf d) G [.ref h0, .ref h1, .int p2] (wX2 G h0 a0 f0 A0 ++ (wX7 G h1 a1 f1 A1)) (wX2 G h0 a0 r.2.1 r.1 ++ (wX7 G h1 a1 r.2.2 A1))) (hdd : True) (l : Launch) (G : Gp) (h0 : Nat) (a0 : Nat → Nat) (h1 : Nat) (a1 : Nat → Nat) (f0 : Nat → Int32) (A0 : Nat → Nat → Int32) (f1 : Nat → Int32) (A1 : Nat → Nat → Int32) (p2 : Int32) : ∀ {r : (Nat → Nat → Int32) × (Nat → Int32) × (Nat → Int32)}, f2_anyOf rec f0 A0 f1 A1 p2 = some r → CtrV l yX2_anyOf cX2_anyOf 5 none (rmGX2_anyOf (d + 1)) G [.ref h0, .ref h1, .int p2] (wX2 G h0 a0 f0 A0 ++ (wX7 G h1 a1 f1 A1)) (wX2 G h0 a0 r.2.1 r.1 ++ (wX7 G h1 a1 r.2.2 A1)) := by
  intro res h
  refine ctrV_of (cc := cX2_anyOf) (maxL := 5) (ret := none) (by decide +kernel) rfl (Nat.le_of_ble_eq_true rfl) (fun p e s m below meth c DA C0 hP hD ls hl => ?_)
  have hPD : WD G DA (wX2 G h0 a0 f0 A0 ++ (wX7 G h1 a1 f1 A1)) s.heap := ⟨hP, hD⟩
  have hS : va_S DA s.heap s.heap [] := va_S.rf
  have hl : lv_has ls 5 [(0, .ref h0), (1, .ref h1), (2, .int p2)] := hl
  obtain ⟨hx, hb, hml, hown, hts⟩ := C0.1
  have hK := C0.2.2.2.1
  unfold f2_anyOf at h
  refine lv_aload_n hx hb dX2_anyOf_0 rfl (lv_at hl 0 rfl) ?_
  refine lv_aload_n hx hb dX2_anyOf_1 rfl (lv_at hl 1 rfl) ?_
  refine lv_iload_n hx hb dX2_anyOf_2 rfl (lv_at hl 2 rfl) ?_
  obtain ⟨q_1, hq_1, h⟩ := ob2 h
  refine kVV (As := [.ref h1, .int p2]) (rest := []) C0 (hrec1 l G h0 a0 h1 a1 f0 A0 f1 A1 p2 hq_1) gi_V_X2_86_X2_allOf (n := 2) rfl (by decide +kernel) rfl ⟨rfl, rfl, by simp only [rmGX2_anyOf]; omega, by simp only [rmGX2_anyOf]; omega⟩ hPD hS 0 2 rfl rfl rfl [0, 1, 2, 3, 4, 5, 6, 7, 8, 9] [] [0, 1, 2, 3, 4, 5, 6, 7, 8, 9] (wN := (wX2 G h0 a0 q_1.2.1 q_1.1 ++ (wX7 G h1 a1 q_1.2.2 A1))) rfl rfl rfl rfl rfl hl.1 (Nat.le_of_ble_eq_true rfl) dX2_anyOf_3 (fun H locs hPD hS => ?_)
  refine lv_iconst (v := 0) hx hb dX2_anyOf_6 (by decide) ?_
  refine lv_istore_n (lv' := [(3, .int 0), (0, .ref h0), (1, .ref h1), (2, .int p2)]) hx hb dX2_anyOf_7 rfl hl (by decide) rfl (fun ls hl => ?_)
  exact ww_f2_anyOf_l8 hrec0 hrec1 hrec2 hrec3 hrec4 hrec5 hdd C0 NF q_1.1 q_1.2.1 q_1.2.2 0 h _ _ _ hPD hS (lv_sub hl [1, 2, 3, 0] rfl)

set_option maxRecDepth 100000 in
set_option maxHeartbeats 4000000 in
theorem ww_f2_allOf_b8 {d : Nat} {rec : Nat → (Nat → Int32) → (Nat → Nat → Int32) → (Nat → Int32) → (Nat → Nat → Int32) → Int32 → Option ((Nat → Nat → Int32) × (Nat → Int32) × (Nat → Int32))} (hrec0 : ∀ (l : Launch) (G : Gp) (h0 : Nat) (a0 : Nat → Nat) (h1 : Nat) (a1 : Nat → Nat) (f0 : Nat → Int32) (A0 : Nat → Nat → Int32) (f1 : Nat → Int32) (A1 : Nat → Nat → Int32) (p2 : Int32), ∀ {r : (Nat → Nat → Int32) × (Nat → Int32) × (Nat → Int32)}, rec 0 f0 A0 f1 A1 p2 = some r → CtrV l yX2_anyOf cX2_anyOf 5 none (rmGX2_anyOf d) G [.ref h0, .ref h1, .int p2] (wX2 G h0 a0 f0 A0 ++ (wX7 G h1 a1 f1 A1)) (wX2 G h0 a0 r.2.1 r.1 ++ (wX7 G h1 a1 r.2.2 A1))) (hrec1 : ∀ (l : Launch) (G : Gp) (h0 : Nat) (a0 : Nat → Nat) (h1 : Nat) (a1 : Nat → Nat) (f0 : Nat → Int32) (A0 : Nat → Nat → Int32) (f1 : Nat → Int32) (A1 : Nat → Nat → Int32) (p2 : Int32), ∀ {r : (Nat → Nat → Int32) × (Nat → Int32) × (Nat → Int32)}, rec 1 f0 A0 f1 A1 p2 = some r → CtrV l yX2_allOf cX2_allOf 5 none (rmGX2_anyOf d) G [.ref h0, .ref h1, .int p2] (wX2 G h0 a0 f0 A0 ++ (wX7 G h1 a1 f1 A1)) (wX2 G h0 a0 r.2.1 r.1 ++ (wX7 G h1 a1 r.2.2 A1))) (hrec2 : ∀ (l : Launch) (G : Gp) (h0 : Nat) (a0 : Nat → Nat) (h1 : Nat) (a1 : Nat → Nat) (f0 : Nat → Int32) (A0 : Nat → Nat → Int32) (f1 : Nat → Int32) (A1 : Nat → Nat → Int32) (p2 : Int32), ∀ {r : (Nat → Nat → Int32) × (Nat → Int32) × (Nat → Int32)}, rec 2 f0 A0 f1 A1 p2 = some r → CtrV l yX2_test cX2_test 5 none (rmGX2_anyOf d) G [.ref h0, .ref h1, .int p2] (wX2 G h0 a0 f0 A0 ++ (wX7 G h1 a1 f1 A1)) (wX2 G h0 a0 r.2.1 r.1 ++ (wX7 G h1 a1 r.2.2 A1))) (hrec3 : ∀ (l : Launch) (G : Gp) (h0 : Nat) (a0 : Nat → Nat) (h1 : Nat) (a1 : Nat → Nat) (f0 : Nat → Int32) (A0 : Nat → Nat → Int32) (f1 : Nat → Int32) (A1 : Nat → Nat → Int32) (p2 : Int32), ∀ {r : (Nat → Nat → Int32) × (Nat → Int32) × (Nat → Int32)}, rec 3 f0 A0 f1 A1 p2 = some r → CtrV l yX2_sum cX2_sum 5 none (rmGX2_anyOf d) G [.ref h0, .ref h1, .int p2] (wX2 G h0 a0 f0 A0 ++ (wX7 G h1 a1 f1 A1)) (wX2 G h0 a0 r.2.1 r.1 ++ (wX7 G h1 a1 r.2.2 A1))) (hrec4 : ∀ (l : Launch) (G : Gp) (h0 : Nat) (a0 : Nat → Nat) (h1 : Nat) (a1 : Nat → Nat) (f0 : Nat → Int32) (A0 : Nat → Nat → Int32) (f1 : Nat → Int32) (A1 : Nat → Nat → Int32) (p2 : Int32), ∀ {r : (Nat → Nat → Int32) × (Nat → Int32) × (Nat → Int32)}, rec 4 f0 A0 f1 A1 p2 = some r → CtrV l yX2_term cX2_term 5 none (rmGX2_anyOf d) G [.ref h0, .ref h1, .int p2] (wX2 G h0 a0 f0 A0 ++ (wX7 G h1 a1 f1 A1)) (wX2 G h0 a0 r.2.1 r.1 ++ (wX7 G h1 a1 r.2.2 A1))) (hrec5 : ∀ (l : Launch) (G : Gp) (h0 : Nat) (a0 : Nat → Nat) (h1 : Nat) (a1 : Nat → Nat) (f0 : Nat → Int32) (A0 : Nat → Nat → Int32) (f1 : Nat → Int32) (A1 : Nat → Nat → Int32) (p2 : Int32), ∀ {r : (Nat → Nat → Int32) × (Nat → Int32) × (Nat → Int32)}, rec 5 f0 A0 f1 A1 p2 = some r → CtrV l yX2_factor cX2_factor 4 none (rmGX2_anyOf d) G [.ref h0, .ref h1, .int p2] (wX2 G h0 a0 f0 A0 ++ (wX7 G h1 a1 f1 A1)) (wX2 G h0 a0 r.2.1 r.1 ++ (wX7 G h1 a1 r.2.2 A1))) (hdd : True)  (C0 : Cx cX2_allOf 5 none RX2 p s m args meth c G DA) {h0 : Nat} {a0 : Nat → Nat} {h1 : Nat} {a1 : Nat → Nat} {A1 : Nat → Nat → Int32} {p2 : Int32}  {k8 : (Nat → Nat → Int32) → (Nat → Int32) → (Nat → Int32) → Int32 → Option ((Nat → Nat → Int32) × (Nat → Int32) × (Nat → Int32))} {res : (Nat → Nat → Int32) × (Nat → Int32) × (Nat → Int32)}  (hk8 : ∀ (A0 : Nat → Nat → Int32) (f0 : Nat → Int32) (f1 : Nat → Int32) (l3 : Int32), k8 A0 f0 f1 l3 = some res → ∀ (H : Heap) (locs : List Loc) (ls : Array Slot), WD G DA (wX2 G h0 a0 f0 A0 ++ (wX7 G h1 a1 f1 A1)) H → va_S DA s.heap H locs → lv_has ls 5 [(0, .ref h0), (1, .ref h1), (2, .int p2), (3, .int l3)] → W p l e (rmGX2_anyOf (d + 1)) s m args below meth c H locs 0 0 (MQ below (QV G DA (wX2 G h0 a0 res.2.1 res.1 ++ (wX7 G h1 a1 res.2.2 A1))) args s 0 0 DA) (F0 m 8 ls [])) : ∀ (A0 : Nat → Nat → Int32) (f0 : Nat → Int32) (f1 : Nat → Int32) (l3 : Int32), f2_allOf_b8 rec A1 p2  k8 A0 f0 f1 l3 = some res → ∀ (H : Heap) (locs : List Loc) (ls : Array Slot), WD G DA (wX2 G h0 a0 f0 A0 ++ (wX7 G h1 a1 f1 A1)) H → va_S DA s.heap H locs → lv_has ls 5 [(0, .ref h0), (1, .ref h1), (2, .int p2), (3, .int l3)] → W p l e (rmGX2_anyOf (d + 1)) s m args below meth c H locs 0 0 (MQ below (QV G DA (wX2 G h0 a0 res.2.1 res.1 ++ (wX7 G h1 a1 res.2.2 A1))) args s 0 0 DA) (F0 m 8 ls []) := by
  obtain ⟨hx, hb, hml, hown, hts⟩ := C0.1
  have hK := C0.2.2.2.1
  intro A0 f0 f1 l3 h _ _ _ hPD hS hl
  unfold f2_allOf_b8 at h
  refine lv_iload_n hx hb dX2_allOf_8 rfl (lv_at hl 3 rfl) ?_
  refine lv_sipush (v := 240) hx hb dX2_allOf_9 (by decide) ?_
  refine lv_icmp_ge (tgt := 68) hx hb dX2_allOf_12 (by decide) (fun cc1 => ?_) (fun cc1 => ?_)
  · have h := (if_pos cc1).symm.trans h
    obtain rfl := Option.some.inj h
    exact eV C0 hPD.1 hPD.2 hS dX2_allOf_68
  · have h := (if_neg cc1).symm.trans h
    refine lv_aload_n hx hb dX2_allOf_15 rfl (lv_at hl 1 rfl) ?_
    refine kVI (As := []) (rest := []) C0 (kt_X7_isFine l G h1 a1 f1 A1) gi_V_X2_73_X7_isFine (n := 0) rfl (by decide +kernel) rfl ⟨rfl, rfl, by simp only [rmGX2_anyOf, rmX7_isFine]; omega, by simp only [rmGX2_anyOf, rmX7_isFine]; omega⟩ hPD hS 8 7 rfl rfl rfl [8, 9] [0, 1, 2, 3, 4, 5, 6, 7] [0, 1, 2, 3, 4, 5, 6, 7, 8, 9] (wN := (wX2 G h0 a0 f0 A0 ++ (wX7 G h1 a1 f1 A1))) rfl rfl rfl rfl rfl hl.1 (Nat.le_of_ble_eq_true rfl) dX2_allOf_16 (fun H locs hPD hS => ?_)
    refine lv_if_eq (tgt := 68) hx hb dX2_allOf_19 (by decide) (fun cc1 => ?_) (fun cc1 => ?_)
    · have h := (if_pos cc1).symm.trans h
      obtain rfl := Option.some.inj h
      exact eV C0 hPD.1 hPD.2 hS dX2_allOf_68
    · have h := (if_neg cc1).symm.trans h
      refine lv_aload_n hx hb dX2_allOf_22 rfl (lv_at hl 1 rfl) ?_
      refine kVI (As := []) (rest := []) C0 (kt_X7_look l G h1 a1 f1 A1) gi_V_X2_54_X7_look (n := 0) rfl (by decide +kernel) rfl ⟨rfl, rfl, by simp only [rmGX2_anyOf, rmX7_look]; omega, by simp only [rmGX2_anyOf, rmX7_look]; omega⟩ hPD hS 8 7 rfl rfl rfl [8, 9] [0, 1, 2, 3, 4, 5, 6, 7] [0, 1, 2, 3, 4, 5, 6, 7, 8, 9] (wN := (wX2 G h0 a0 f0 A0 ++ (wX7 G h1 a1 f1 A1))) rfl rfl rfl rfl rfl hl.1 (Nat.le_of_ble_eq_true rfl) dX2_allOf_23 (fun H locs hPD hS => ?_)
      refine lv_bipush (v := 38) hx hb dX2_allOf_26 (by decide) ?_
      refine lv_icmp_ne (tgt := 68) hx hb dX2_allOf_28 (by decide) (fun cc1 => ?_) (fun cc1 => ?_)
      · have h := (if_neg cc1).symm.trans h
        obtain rfl := Option.some.inj h
        exact eV C0 hPD.1 hPD.2 hS dX2_allOf_68
      · have h := (if_pos cc1).symm.trans h
        refine lv_aload_n hx hb dX2_allOf_31 rfl (lv_at hl 1 rfl) ?_
        obtain ⟨z_2, ez_2, h⟩ := lvl h
        have kc := kt_X7_step l G h1 a1 f1 A1
        rw [← ez_2] at kc
        clear ez_2
        refine kVV (As := []) (rest := []) C0 (kc) gi_V_X2_62_X7_step (n := 0) rfl (by decide +kernel) rfl ⟨rfl, rfl, by simp only [rmGX2_anyOf, rmX7_step]; omega, by simp only [rmGX2_anyOf, rmX7_step]; omega⟩ hPD hS 8 7 rfl rfl rfl [8, 9] [0, 1, 2, 3, 4, 5, 6, 7] [0, 1, 2, 3, 4, 5, 6, 7, 8, 9] (wN := (wX2 G h0 a0 f0 A0 ++ (wX7 G h1 a1 z_2 A1))) rfl rfl rfl rfl rfl hl.1 (Nat.le_of_ble_eq_true rfl) dX2_allOf_32 (fun H locs hPD hS => ?_)
        refine lv_aload_n hx hb dX2_allOf_35 rfl (lv_at hl 0 rfl) ?_
        refine lv_iconst (v := 4) hx hb dX2_allOf_36 (by decide) ?_
        refine lv_iconst (v := 0) hx hb dX2_allOf_37 (by decide) ?_
        obtain ⟨q_3, hq_3, h⟩ := ob2 h
        refine kVI (As := [.int 4, .int 0]) (rest := []) C0 (kt_X2_order l G h0 a0 f0 A0 4 0 hq_3) gi_V_X2_89_X2_order (n := 2) rfl (by decide +kernel) rfl ⟨rfl, rfl, by simp only [rmGX2_anyOf, rmX2_order]; omega, by simp only [rmGX2_anyOf, rmX2_order]; omega⟩ hPD hS 0 2 rfl rfl rfl [0, 1, 2, 3, 4, 5, 6, 7] [8, 9] [2, 3, 4, 5, 6, 7, 8, 9, 0, 1] (wN := (wX2 G h0 a0 q_3.2.2 q_3.2.1 ++ (wX7 G h1 a1 z_2 A1))) rfl rfl rfl rfl rfl hl.1 (Nat.le_of_ble_eq_true rfl) dX2_allOf_38 (fun H locs hPD hS => ?_)
        refine lv_istore (lv' := [(4, .int q_3.1), (0, .ref h0), (1, .ref h1), (2, .int p2), (3, .int l3)]) hx hb dX2_allOf_41 hl (by decide) rfl (fun ls hl => ?_)
        refine lv_aload_n hx hb dX2_allOf_43 rfl (lv_at hl 1 rfl) ?_
        refine lv_aload_n hx hb dX2_allOf_44 rfl (lv_at hl 2 rfl) ?_
        refine lv_iload_n hx hb dX2_allOf_45 rfl (lv_at hl 3 rfl) ?_
        obtain ⟨q_4, hq_4, h⟩ := ob2 h
        refine kVV (As := [.ref h1, .int p2]) (rest := []) C0 (hrec2 l G h0 a0 h1 a1 q_3.2.2 q_3.2.1 z_2 A1 p2 hq_4) gi_V_X2_93_X2_test (n := 2) rfl (by decide +kernel) rfl ⟨rfl, rfl, by simp only [rmGX2_anyOf]; omega, by simp only [rmGX2_anyOf]; omega⟩ hPD hS 0 2 rfl rfl rfl [0, 1, 2, 3, 4, 5, 6, 7, 8, 9] [] [0, 1, 2, 3, 4, 5, 6, 7, 8, 9] (wN := (wX2 G h0 a0 q_4.2.1 q_4.1 ++ (wX7 G h1 a1 q_4.2.2 A1))) rfl rfl rfl rfl rfl hl.1 (Nat.le_of_ble_eq_true rfl) dX2_allOf_46 (fun H locs hPD hS => ?_)
        refine lv_aload_n hx hb dX2_allOf_49 rfl (lv_at hl 1 rfl) ?_
        refine va_get (D := G.1) (ci := 2) (v := .ref (a0 1)) (C := RX2) (T := TX2) (N := 10) hx hb hts inlX2 hown hK hPD.1 0 rfl rfl 1 (by decide) (hts _ gw_130) (fun _ h9 => h9) rfl dX2_allOf_50 ?_
        refine lv_iload hx hb dX2_allOf_53 (lv_at hl 0 rfl) ?_
        refine lv_aload_n hx hb dX2_allOf_55 rfl (lv_at hl 1 rfl) ?_
        refine va_get (D := G.1) (ci := 2) (v := .int (q_4.2.1 7)) (C := RX2) (T := TX2) (N := 10) hx hb hts inlX2 hown hK hPD.1 0 rfl rfl 7 (by decide) (hts _ gw_129) (fun _ h9 => h9) rfl dX2_allOf_56 ?_
        obtain ⟨z_5, ez_5, h⟩ := lvl h
        have kc := kt_X9_put l G (a0 1) 240 (q_4.1 1) q_3.1 (q_4.2.1 7) (by decide)
        rw [← ez_5] at kc
        clear ez_5
        refine kNV (As := [.ref (a0 1), .int q_3.1, .int (q_4.2.1 7)]) (rest := []) C0 (kc) gi_U_X9_put (host := "IdleCrimes") (index := 65) (List.mem_of_getElem? (i := 12) rfl) gw_6 gw_19 (n := 3) rfl (by decide +kernel) ⟨rfl, rfl, by simp only [rmGX2_anyOf, rmX9_put]; omega, by simp only [rmGX2_anyOf, rmX9_put]; omega⟩ hPD hS [2] [0, 1, 3, 4, 5, 6, 7, 8, 9] [0, 1, 9, 2, 3, 4, 5, 6, 7, 8] (wN := (wX2 G h0 a0 q_4.2.1 (updA q_4.1 1 z_5) ++ (wX7 G h1 a1 q_4.2.2 A1))) rfl rfl rfl rfl rfl hl.1 (Nat.le_of_ble_eq_true rfl) dX2_allOf_59 (fun H locs hPD hS => ?_)
        obtain ⟨A0_6, eA0_6, h⟩ := lvl h
        have hPD : WD G DA (wX2 G h0 a0 q_4.2.1 A0_6 ++ (wX7 G h1 a1 q_4.2.2 A1)) H := by rw [eA0_6]; exact hPD
        clear eA0_6
        refine lv_iinc (v := l3 + 1) (lv' := [(3, .int (l3 + 1)), (4, .int q_3.1), (0, .ref h0), (1, .ref h1), (2, .int p2)]) hx hb dX2_allOf_62 hl (k := 4) rfl rfl (by decide) rfl (fun ls hl => ?_)
        refine lv_goto (tgt := 8) hx hb dX2_allOf_65 (by decide) ?_
        exact hk8 A0_6 q_4.2.1 q_4.2.2 (l3 + 1) h _ _ _ hPD hS (lv_sub hl [2, 3, 4, 0] rfl)
set_option maxRecDepth 100000 in
set_option maxHeartbeats 4000000 in
theorem ww_f2_allOf_l8 {d : Nat} {rec : Nat → (Nat → Int32) → (Nat → Nat → Int32) → (Nat → Int32) → (Nat → Nat → Int32) → Int32 → Option ((Nat → Nat → Int32) × (Nat → Int32) × (Nat → Int32))} (hrec0 : ∀ (l : Launch) (G : Gp) (h0 : Nat) (a0 : Nat → Nat) (h1 : Nat) (a1 : Nat → Nat) (f0 : Nat → Int32) (A0 : Nat → Nat → Int32) (f1 : Nat → Int32) (A1 : Nat → Nat → Int32) (p2 : Int32), ∀ {r : (Nat → Nat → Int32) × (Nat → Int32) × (Nat → Int32)}, rec 0 f0 A0 f1 A1 p2 = some r → CtrV l yX2_anyOf cX2_anyOf 5 none (rmGX2_anyOf d) G [.ref h0, .ref h1, .int p2] (wX2 G h0 a0 f0 A0 ++ (wX7 G h1 a1 f1 A1)) (wX2 G h0 a0 r.2.1 r.1 ++ (wX7 G h1 a1 r.2.2 A1))) (hrec1 : ∀ (l : Launch) (G : Gp) (h0 : Nat) (a0 : Nat → Nat) (h1 : Nat) (a1 : Nat → Nat) (f0 : Nat → Int32) (A0 : Nat → Nat → Int32) (f1 : Nat → Int32) (A1 : Nat → Nat → Int32) (p2 : Int32), ∀ {r : (Nat → Nat → Int32) × (Nat → Int32) × (Nat → Int32)}, rec 1 f0 A0 f1 A1 p2 = some r → CtrV l yX2_allOf cX2_allOf 5 none (rmGX2_anyOf d) G [.ref h0, .ref h1, .int p2] (wX2 G h0 a0 f0 A0 ++ (wX7 G h1 a1 f1 A1)) (wX2 G h0 a0 r.2.1 r.1 ++ (wX7 G h1 a1 r.2.2 A1))) (hrec2 : ∀ (l : Launch) (G : Gp) (h0 : Nat) (a0 : Nat → Nat) (h1 : Nat) (a1 : Nat → Nat) (f0 : Nat → Int32) (A0 : Nat → Nat → Int32) (f1 : Nat → Int32) (A1 : Nat → Nat → Int32) (p2 : Int32), ∀ {r : (Nat → Nat → Int32) × (Nat → Int32) × (Nat → Int32)}, rec 2 f0 A0 f1 A1 p2 = some r → CtrV l yX2_test cX2_test 5 none (rmGX2_anyOf d) G [.ref h0, .ref h1, .int p2] (wX2 G h0 a0 f0 A0 ++ (wX7 G h1 a1 f1 A1)) (wX2 G h0 a0 r.2.1 r.1 ++ (wX7 G h1 a1 r.2.2 A1))) (hrec3 : ∀ (l : Launch) (G : Gp) (h0 : Nat) (a0 : Nat → Nat) (h1 : Nat) (a1 : Nat → Nat) (f0 : Nat → Int32) (A0 : Nat → Nat → Int32) (f1 : Nat → Int32) (A1 : Nat → Nat → Int32) (p2 : Int32), ∀ {r : (Nat → Nat → Int32) × (Nat → Int32) × (Nat → Int32)}, rec 3 f0 A0 f1 A1 p2 = some r → CtrV l yX2_sum cX2_sum 5 none (rmGX2_anyOf d) G [.ref h0, .ref h1, .int p2] (wX2 G h0 a0 f0 A0 ++ (wX7 G h1 a1 f1 A1)) (wX2 G h0 a0 r.2.1 r.1 ++ (wX7 G h1 a1 r.2.2 A1))) (hrec4 : ∀ (l : Launch) (G : Gp) (h0 : Nat) (a0 : Nat → Nat) (h1 : Nat) (a1 : Nat → Nat) (f0 : Nat → Int32) (A0 : Nat → Nat → Int32) (f1 : Nat → Int32) (A1 : Nat → Nat → Int32) (p2 : Int32), ∀ {r : (Nat → Nat → Int32) × (Nat → Int32) × (Nat → Int32)}, rec 4 f0 A0 f1 A1 p2 = some r → CtrV l yX2_term cX2_term 5 none (rmGX2_anyOf d) G [.ref h0, .ref h1, .int p2] (wX2 G h0 a0 f0 A0 ++ (wX7 G h1 a1 f1 A1)) (wX2 G h0 a0 r.2.1 r.1 ++ (wX7 G h1 a1 r.2.2 A1))) (hrec5 : ∀ (l : Launch) (G : Gp) (h0 : Nat) (a0 : Nat → Nat) (h1 : Nat) (a1 : Nat → Nat) (f0 : Nat → Int32) (A0 : Nat → Nat → Int32) (f1 : Nat → Int32) (A1 : Nat → Nat → Int32) (p2 : Int32), ∀ {r : (Nat → Nat → Int32) × (Nat → Int32) × (Nat → Int32)}, rec 5 f0 A0 f1 A1 p2 = some r → CtrV l yX2_factor cX2_factor 4 none (rmGX2_anyOf d) G [.ref h0, .ref h1, .int p2] (wX2 G h0 a0 f0 A0 ++ (wX7 G h1 a1 f1 A1)) (wX2 G h0 a0 r.2.1 r.1 ++ (wX7 G h1 a1 r.2.2 A1))) (hdd : True)  (C0 : Cx cX2_allOf 5 none RX2 p s m args meth c G DA) {h0 : Nat} {a0 : Nat → Nat} {h1 : Nat} {a1 : Nat → Nat} {A1 : Nat → Nat → Int32} {p2 : Int32}   {res : (Nat → Nat → Int32) × (Nat → Int32) × (Nat → Int32)}  : ∀ (n : Nat) (A0 : Nat → Nat → Int32) (f0 : Nat → Int32) (f1 : Nat → Int32) (l3 : Int32), f2_allOf_l8 rec A1 p2  n A0 f0 f1 l3 = some res → ∀ (H : Heap) (locs : List Loc) (ls : Array Slot), WD G DA (wX2 G h0 a0 f0 A0 ++ (wX7 G h1 a1 f1 A1)) H → va_S DA s.heap H locs → lv_has ls 5 [(0, .ref h0), (1, .ref h1), (2, .int p2), (3, .int l3)] → W p l e (rmGX2_anyOf (d + 1)) s m args below meth c H locs 0 0 (MQ below (QV G DA (wX2 G h0 a0 res.2.1 res.1 ++ (wX7 G h1 a1 res.2.2 A1))) args s 0 0 DA) (F0 m 8 ls []) := by
  intro n
  induction n with
  | zero => intro A0 f0 f1 l3 h; cases h
  | succ n ih => intro A0 f0 f1 l3 h; exact ww_f2_allOf_b8 hrec0 hrec1 hrec2 hrec3 hrec4 hrec5 hdd C0  ih A0 f0 f1 l3 h
set_option maxRecDepth 100000 in
set_option maxHeartbeats 4000000 in
theorem ko_X2_allOf {d : Nat} {rec : Nat → (Nat → Int32) → (Nat → Nat → Int32) → (Nat → Int32) → (Nat → Nat → Int32) → Int32 → Option ((Nat → Nat → Int32) × (Nat → Int32) × (Nat → Int32))} (hrec0 : ∀ (l : Launch) (G : Gp) (h0 : Nat) (a0 : Nat → Nat) (h1 : Nat) (a1 : Nat → Nat) (f0 : Nat → Int32) (A0 : Nat → Nat → Int32) (f1 : Nat → Int32) (A1 : Nat → Nat → Int32) (p2 : Int32), ∀ {r : (Nat → Nat → Int32) × (Nat → Int32) × (Nat → Int32)}, rec 0 f0 A0 f1 A1 p2 = some r → CtrV l yX2_anyOf cX2_anyOf 5 none (rmGX2_anyOf d) G [.ref h0, .ref h1, .int p2] (wX2 G h0 a0 f0 A0 ++ (wX7 G h1 a1 f1 A1)) (wX2 G h0 a0 r.2.1 r.1 ++ (wX7 G h1 a1 r.2.2 A1))) (hrec1 : ∀ (l : Launch) (G : Gp) (h0 : Nat) (a0 : Nat → Nat) (h1 : Nat) (a1 : Nat → Nat) (f0 : Nat → Int32) (A0 : Nat → Nat → Int32) (f1 : Nat → Int32) (A1 : Nat → Nat → Int32) (p2 : Int32), ∀ {r : (Nat → Nat → Int32) × (Nat → Int32) × (Nat → Int32)}, rec 1 f0 A0 f1 A1 p2 = some r → CtrV l yX2_allOf cX2_allOf 5 none (rmGX2_anyOf d) G [.ref h0, .ref h1, .int p2] (wX2 G h0 a0 f0 A0 ++ (wX7 G h1 a1 f1 A1)) (wX2 G h0 a0 r.2.1 r.1 ++ (wX7 G h1 a1 r.2.2 A1))) (hrec2 : ∀ (l : Launch) (G : Gp) (h0 : Nat) (a0 : Nat → Nat) (h1 : Nat) (a1 : Nat → Nat) (f0 : Nat → Int32) (A0 : Nat → Nat → Int32) (f1 : Nat → Int32) (A1 : Nat → Nat → Int32) (p2 : Int32), ∀ {r : (Nat → Nat → Int32) × (Nat → Int32) × (Nat → Int32)}, rec 2 f0 A0 f1 A1 p2 = some r → CtrV l yX2_test cX2_test 5 none (rmGX2_anyOf d) G [.ref h0, .ref h1, .int p2] (wX2 G h0 a0 f0 A0 ++ (wX7 G h1 a1 f1 A1)) (wX2 G h0 a0 r.2.1 r.1 ++ (wX7 G h1 a1 r.2.2 A1))) (hrec3 : ∀ (l : Launch) (G : Gp) (h0 : Nat) (a0 : Nat → Nat) (h1 : Nat) (a1 : Nat → Nat) (f0 : Nat → Int32) (A0 : Nat → Nat → Int32) (f1 : Nat → Int32) (A1 : Nat → Nat → Int32) (p2 : Int32), ∀ {r : (Nat → Nat → Int32) × (Nat → Int32) × (Nat → Int32)}, rec 3 f0 A0 f1 A1 p2 = some r → CtrV l yX2_sum cX2_sum 5 none (rmGX2_anyOf d) G [.ref h0, .ref h1, .int p2] (wX2 G h0 a0 f0 A0 ++ (wX7 G h1 a1 f1 A1)) (wX2 G h0 a0 r.2.1 r.1 ++ (wX7 G h1 a1 r.2.2 A1))) (hrec4 : ∀ (l : Launch) (G : Gp) (h0 : Nat) (a0 : Nat → Nat) (h1 : Nat) (a1 : Nat → Nat) (f0 : Nat → Int32) (A0 : Nat → Nat → Int32) (f1 : Nat → Int32) (A1 : Nat → Nat → Int32) (p2 : Int32), ∀ {r : (Nat → Nat → Int32) × (Nat → Int32) × (Nat → Int32)}, rec 4 f0 A0 f1 A1 p2 = some r → CtrV l yX2_term cX2_term 5 none (rmGX2_anyOf d) G [.ref h0, .ref h1, .int p2] (wX2 G h0 a0 f0 A0 ++ (wX7 G h1 a1 f1 A1)) (wX2 G h0 a0 r.2.1 r.1 ++ (wX7 G h1 a1 r.2.2 A1))) (hrec5 : ∀ (l : Launch) (G : Gp) (h0 : Nat) (a0 : Nat → Nat) (h1 : Nat) (a1 : Nat → Nat) (f0 : Nat → Int32) (A0 : Nat → Nat → Int32) (f1 : Nat → Int32) (A1 : Nat → Nat → Int32) (p2 : Int32), ∀ {r : (Nat → Nat → Int32) × (Nat → Int32) × (Nat → Int32)}, rec 5 f0 A0 f1 A1 p2 = some r → CtrV l yX2_factor cX2_factor 4 none (rmGX2_anyOf d) G [.ref h0, .ref h1, .int p2] (wX2 G h0 a0 f0 A0 ++ (wX7 G h1 a1 f1 A1)) (wX2 G h0 a0 r.2.1 r.1 ++ (wX7 G h1 a1 r.2.2 A1))) (hdd : True) (l : Launch) (G : Gp) (h0 : Nat) (a0 : Nat → Nat) (h1 : Nat) (a1 : Nat → Nat) (f0 : Nat → Int32) (A0 : Nat → Nat → Int32) (f1 : Nat → Int32) (A1 : Nat → Nat → Int32) (p2 : Int32) : ∀ {r : (Nat → Nat → Int32) × (Nat → Int32) × (Nat → Int32)}, f2_allOf rec f0 A0 f1 A1 p2 = some r → CtrV l yX2_allOf cX2_allOf 5 none (rmGX2_anyOf (d + 1)) G [.ref h0, .ref h1, .int p2] (wX2 G h0 a0 f0 A0 ++ (wX7 G h1 a1 f1 A1)) (wX2 G h0 a0 r.2.1 r.1 ++ (wX7 G h1 a1 r.2.2 A1)) := by
  intro res h
  refine ctrV_of (cc := cX2_allOf) (maxL := 5) (ret := none) (by decide +kernel) rfl (Nat.le_of_ble_eq_true rfl) (fun p e s m below meth c DA C0 hP hD ls hl => ?_)
  have hPD : WD G DA (wX2 G h0 a0 f0 A0 ++ (wX7 G h1 a1 f1 A1)) s.heap := ⟨hP, hD⟩
  have hS : va_S DA s.heap s.heap [] := va_S.rf
  have hl : lv_has ls 5 [(0, .ref h0), (1, .ref h1), (2, .int p2)] := hl
  obtain ⟨hx, hb, hml, hown, hts⟩ := C0.1
  have hK := C0.2.2.2.1
  unfold f2_allOf at h
  refine lv_aload_n hx hb dX2_allOf_0 rfl (lv_at hl 0 rfl) ?_
  refine lv_aload_n hx hb dX2_allOf_1 rfl (lv_at hl 1 rfl) ?_
  refine lv_iload_n hx hb dX2_allOf_2 rfl (lv_at hl 2 rfl) ?_
  obtain ⟨q_1, hq_1, h⟩ := ob2 h
  refine kVV (As := [.ref h1, .int p2]) (rest := []) C0 (hrec2 l G h0 a0 h1 a1 f0 A0 f1 A1 p2 hq_1) gi_V_X2_93_X2_test (n := 2) rfl (by decide +kernel) rfl ⟨rfl, rfl, by simp only [rmGX2_anyOf]; omega, by simp only [rmGX2_anyOf]; omega⟩ hPD hS 0 2 rfl rfl rfl [0, 1, 2, 3, 4, 5, 6, 7, 8, 9] [] [0, 1, 2, 3, 4, 5, 6, 7, 8, 9] (wN := (wX2 G h0 a0 q_1.2.1 q_1.1 ++ (wX7 G h1 a1 q_1.2.2 A1))) rfl rfl rfl rfl rfl hl.1 (Nat.le_of_ble_eq_true rfl) dX2_allOf_3 (fun H locs hPD hS => ?_)
  refine lv_iconst (v := 0) hx hb dX2_allOf_6 (by decide) ?_
  refine lv_istore_n (lv' := [(3, .int 0), (0, .ref h0), (1, .ref h1), (2, .int p2)]) hx hb dX2_allOf_7 rfl hl (by decide) rfl (fun ls hl => ?_)
  exact ww_f2_allOf_l8 hrec0 hrec1 hrec2 hrec3 hrec4 hrec5 hdd C0 NF q_1.1 q_1.2.1 q_1.2.2 0 h _ _ _ hPD hS (lv_sub hl [1, 2, 3, 0] rfl)

set_option maxRecDepth 100000 in
set_option maxHeartbeats 4000000 in
theorem ww_f2_test_b101 {d : Nat} {rec : Nat → (Nat → Int32) → (Nat → Nat → Int32) → (Nat → Int32) → (Nat → Nat → Int32) → Int32 → Option ((Nat → Nat → Int32) × (Nat → Int32) × (Nat → Int32))} (hrec0 : ∀ (l : Launch) (G : Gp) (h0 : Nat) (a0 : Nat → Nat) (h1 : Nat) (a1 : Nat → Nat) (f0 : Nat → Int32) (A0 : Nat → Nat → Int32) (f1 : Nat → Int32) (A1 : Nat → Nat → Int32) (p2 : Int32), ∀ {r : (Nat → Nat → Int32) × (Nat → Int32) × (Nat → Int32)}, rec 0 f0 A0 f1 A1 p2 = some r → CtrV l yX2_anyOf cX2_anyOf 5 none (rmGX2_anyOf d) G [.ref h0, .ref h1, .int p2] (wX2 G h0 a0 f0 A0 ++ (wX7 G h1 a1 f1 A1)) (wX2 G h0 a0 r.2.1 r.1 ++ (wX7 G h1 a1 r.2.2 A1))) (hrec1 : ∀ (l : Launch) (G : Gp) (h0 : Nat) (a0 : Nat → Nat) (h1 : Nat) (a1 : Nat → Nat) (f0 : Nat → Int32) (A0 : Nat → Nat → Int32) (f1 : Nat → Int32) (A1 : Nat → Nat → Int32) (p2 : Int32), ∀ {r : (Nat → Nat → Int32) × (Nat → Int32) × (Nat → Int32)}, rec 1 f0 A0 f1 A1 p2 = some r → CtrV l yX2_allOf cX2_allOf 5 none (rmGX2_anyOf d) G [.ref h0, .ref h1, .int p2] (wX2 G h0 a0 f0 A0 ++ (wX7 G h1 a1 f1 A1)) (wX2 G h0 a0 r.2.1 r.1 ++ (wX7 G h1 a1 r.2.2 A1))) (hrec2 : ∀ (l : Launch) (G : Gp) (h0 : Nat) (a0 : Nat → Nat) (h1 : Nat) (a1 : Nat → Nat) (f0 : Nat → Int32) (A0 : Nat → Nat → Int32) (f1 : Nat → Int32) (A1 : Nat → Nat → Int32) (p2 : Int32), ∀ {r : (Nat → Nat → Int32) × (Nat → Int32) × (Nat → Int32)}, rec 2 f0 A0 f1 A1 p2 = some r → CtrV l yX2_test cX2_test 5 none (rmGX2_anyOf d) G [.ref h0, .ref h1, .int p2] (wX2 G h0 a0 f0 A0 ++ (wX7 G h1 a1 f1 A1)) (wX2 G h0 a0 r.2.1 r.1 ++ (wX7 G h1 a1 r.2.2 A1))) (hrec3 : ∀ (l : Launch) (G : Gp) (h0 : Nat) (a0 : Nat → Nat) (h1 : Nat) (a1 : Nat → Nat) (f0 : Nat → Int32) (A0 : Nat → Nat → Int32) (f1 : Nat → Int32) (A1 : Nat → Nat → Int32) (p2 : Int32), ∀ {r : (Nat → Nat → Int32) × (Nat → Int32) × (Nat → Int32)}, rec 3 f0 A0 f1 A1 p2 = some r → CtrV l yX2_sum cX2_sum 5 none (rmGX2_anyOf d) G [.ref h0, .ref h1, .int p2] (wX2 G h0 a0 f0 A0 ++ (wX7 G h1 a1 f1 A1)) (wX2 G h0 a0 r.2.1 r.1 ++ (wX7 G h1 a1 r.2.2 A1))) (hrec4 : ∀ (l : Launch) (G : Gp) (h0 : Nat) (a0 : Nat → Nat) (h1 : Nat) (a1 : Nat → Nat) (f0 : Nat → Int32) (A0 : Nat → Nat → Int32) (f1 : Nat → Int32) (A1 : Nat → Nat → Int32) (p2 : Int32), ∀ {r : (Nat → Nat → Int32) × (Nat → Int32) × (Nat → Int32)}, rec 4 f0 A0 f1 A1 p2 = some r → CtrV l yX2_term cX2_term 5 none (rmGX2_anyOf d) G [.ref h0, .ref h1, .int p2] (wX2 G h0 a0 f0 A0 ++ (wX7 G h1 a1 f1 A1)) (wX2 G h0 a0 r.2.1 r.1 ++ (wX7 G h1 a1 r.2.2 A1))) (hrec5 : ∀ (l : Launch) (G : Gp) (h0 : Nat) (a0 : Nat → Nat) (h1 : Nat) (a1 : Nat → Nat) (f0 : Nat → Int32) (A0 : Nat → Nat → Int32) (f1 : Nat → Int32) (A1 : Nat → Nat → Int32) (p2 : Int32), ∀ {r : (Nat → Nat → Int32) × (Nat → Int32) × (Nat → Int32)}, rec 5 f0 A0 f1 A1 p2 = some r → CtrV l yX2_factor cX2_factor 4 none (rmGX2_anyOf d) G [.ref h0, .ref h1, .int p2] (wX2 G h0 a0 f0 A0 ++ (wX7 G h1 a1 f1 A1)) (wX2 G h0 a0 r.2.1 r.1 ++ (wX7 G h1 a1 r.2.2 A1))) (hdd : True)  (C0 : Cx cX2_test 5 none RX2 p s m args meth c G DA) {h0 : Nat} {a0 : Nat → Nat} {h1 : Nat} {a1 : Nat → Nat} {A1 : Nat → Nat → Int32} {p2 : Int32}   {res : (Nat → Nat → Int32) × (Nat → Int32) × (Nat → Int32)}  : ∀ (A0 : Nat → Nat → Int32) (f0 : Nat → Int32) (f1 : Nat → Int32) (l4 : Int32), f2_test_b101 rec A1 p2  A0 f0 f1 l4 = some res → ∀ (H : Heap) (locs : List Loc) (ls : Array Slot), WD G DA (wX2 G h0 a0 f0 A0 ++ (wX7 G h1 a1 f1 A1)) H → va_S DA s.heap H locs → lv_has ls 5 [(0, .ref h0), (1, .ref h1), (2, .int p2), (4, .int l4)] → W p l e (rmGX2_anyOf (d + 1)) s m args below meth c H locs 0 0 (MQ below (QV G DA (wX2 G h0 a0 res.2.1 res.1 ++ (wX7 G h1 a1 res.2.2 A1))) args s 0 0 DA) (F0 m 101 ls []) := by
  obtain ⟨hx, hb, hml, hown, hts⟩ := C0.1
  have hK := C0.2.2.2.1
  intro A0 f0 f1 l4 h _ _ _ hPD hS hl
  unfold f2_test_b101 at h
  refine lv_aload_n hx hb dX2_test_101 rfl (lv_at hl 1 rfl) ?_
  obtain ⟨z_2, ez_2, h⟩ := lvl h
  have kc := kt_X7_step l G h1 a1 f1 A1
  rw [← ez_2] at kc
  clear ez_2
  refine kVV (As := []) (rest := []) C0 (kc) gi_V_X2_62_X7_step (n := 0) rfl (by decide +kernel) rfl ⟨rfl, rfl, by simp only [rmGX2_anyOf, rmX7_step]; omega, by simp only [rmGX2_anyOf, rmX7_step]; omega⟩ hPD hS 8 7 rfl rfl rfl [8, 9] [0, 1, 2, 3, 4, 5, 6, 7] [0, 1, 2, 3, 4, 5, 6, 7, 8, 9] (wN := (wX2 G h0 a0 f0 A0 ++ (wX7 G h1 a1 z_2 A1))) rfl rfl rfl rfl rfl hl.1 (Nat.le_of_ble_eq_true rfl) dX2_test_102 (fun H locs hPD hS => ?_)
  refine lv_aload_n hx hb dX2_test_105 rfl (lv_at hl 0 rfl) ?_
  refine lv_aload_n hx hb dX2_test_106 rfl (lv_at hl 1 rfl) ?_
  refine lv_iload_n hx hb dX2_test_107 rfl (lv_at hl 2 rfl) ?_
  obtain ⟨q_3, hq_3, h⟩ := ob2 h
  refine kVV (As := [.ref h1, .int p2]) (rest := []) C0 (hrec3 l G h0 a0 h1 a1 f0 A0 z_2 A1 p2 hq_3) gi_V_X2_69_X2_sum (n := 2) rfl (by decide +kernel) rfl ⟨rfl, rfl, by simp only [rmGX2_anyOf]; omega, by simp only [rmGX2_anyOf]; omega⟩ hPD hS 0 2 rfl rfl rfl [0, 1, 2, 3, 4, 5, 6, 7, 8, 9] [] [0, 1, 2, 3, 4, 5, 6, 7, 8, 9] (wN := (wX2 G h0 a0 q_3.2.1 q_3.1 ++ (wX7 G h1 a1 q_3.2.2 A1))) rfl rfl rfl rfl rfl hl.1 (Nat.le_of_ble_eq_true rfl) dX2_test_108 (fun H locs hPD hS => ?_)
  refine lv_aload_n hx hb dX2_test_111 rfl (lv_at hl 0 rfl) ?_
  refine lv_iload hx hb dX2_test_112 (lv_at hl 3 rfl) ?_
  refine lv_iconst (v := 0) hx hb dX2_test_114 (by decide) ?_
  obtain ⟨q_4, hq_4, h⟩ := ob2 h
  refine kVI (As := [.int l4, .int 0]) (rest := []) C0 (kt_X2_order l G h0 a0 q_3.2.1 q_3.1 l4 0 hq_4) gi_V_X2_89_X2_order (n := 2) rfl (by decide +kernel) rfl ⟨rfl, rfl, by simp only [rmGX2_anyOf, rmX2_order]; omega, by simp only [rmGX2_anyOf, rmX2_order]; omega⟩ hPD hS 0 2 rfl rfl rfl [0, 1, 2, 3, 4, 5, 6, 7] [8, 9] [2, 3, 4, 5, 6, 7, 8, 9, 0, 1] (wN := (wX2 G h0 a0 q_4.2.2 q_4.2.1 ++ (wX7 G h1 a1 q_3.2.2 A1))) rfl rfl rfl rfl rfl hl.1 (Nat.le_of_ble_eq_true rfl) dX2_test_115 (fun H locs hPD hS => ?_)
  refine lv_pop hx hb dX2_test_118 rfl ?_
  refine lv_goto (tgt := 127) hx hb dX2_test_119 (by decide) ?_
  obtain rfl := Option.some.inj h
  exact eV C0 hPD.1 hPD.2 hS dX2_test_127
set_option maxRecDepth 100000 in
set_option maxHeartbeats 4000000 in
theorem ko_X2_test {d : Nat} {rec : Nat → (Nat → Int32) → (Nat → Nat → Int32) → (Nat → Int32) → (Nat → Nat → Int32) → Int32 → Option ((Nat → Nat → Int32) × (Nat → Int32) × (Nat → Int32))} (hrec0 : ∀ (l : Launch) (G : Gp) (h0 : Nat) (a0 : Nat → Nat) (h1 : Nat) (a1 : Nat → Nat) (f0 : Nat → Int32) (A0 : Nat → Nat → Int32) (f1 : Nat → Int32) (A1 : Nat → Nat → Int32) (p2 : Int32), ∀ {r : (Nat → Nat → Int32) × (Nat → Int32) × (Nat → Int32)}, rec 0 f0 A0 f1 A1 p2 = some r → CtrV l yX2_anyOf cX2_anyOf 5 none (rmGX2_anyOf d) G [.ref h0, .ref h1, .int p2] (wX2 G h0 a0 f0 A0 ++ (wX7 G h1 a1 f1 A1)) (wX2 G h0 a0 r.2.1 r.1 ++ (wX7 G h1 a1 r.2.2 A1))) (hrec1 : ∀ (l : Launch) (G : Gp) (h0 : Nat) (a0 : Nat → Nat) (h1 : Nat) (a1 : Nat → Nat) (f0 : Nat → Int32) (A0 : Nat → Nat → Int32) (f1 : Nat → Int32) (A1 : Nat → Nat → Int32) (p2 : Int32), ∀ {r : (Nat → Nat → Int32) × (Nat → Int32) × (Nat → Int32)}, rec 1 f0 A0 f1 A1 p2 = some r → CtrV l yX2_allOf cX2_allOf 5 none (rmGX2_anyOf d) G [.ref h0, .ref h1, .int p2] (wX2 G h0 a0 f0 A0 ++ (wX7 G h1 a1 f1 A1)) (wX2 G h0 a0 r.2.1 r.1 ++ (wX7 G h1 a1 r.2.2 A1))) (hrec2 : ∀ (l : Launch) (G : Gp) (h0 : Nat) (a0 : Nat → Nat) (h1 : Nat) (a1 : Nat → Nat) (f0 : Nat → Int32) (A0 : Nat → Nat → Int32) (f1 : Nat → Int32) (A1 : Nat → Nat → Int32) (p2 : Int32), ∀ {r : (Nat → Nat → Int32) × (Nat → Int32) × (Nat → Int32)}, rec 2 f0 A0 f1 A1 p2 = some r → CtrV l yX2_test cX2_test 5 none (rmGX2_anyOf d) G [.ref h0, .ref h1, .int p2] (wX2 G h0 a0 f0 A0 ++ (wX7 G h1 a1 f1 A1)) (wX2 G h0 a0 r.2.1 r.1 ++ (wX7 G h1 a1 r.2.2 A1))) (hrec3 : ∀ (l : Launch) (G : Gp) (h0 : Nat) (a0 : Nat → Nat) (h1 : Nat) (a1 : Nat → Nat) (f0 : Nat → Int32) (A0 : Nat → Nat → Int32) (f1 : Nat → Int32) (A1 : Nat → Nat → Int32) (p2 : Int32), ∀ {r : (Nat → Nat → Int32) × (Nat → Int32) × (Nat → Int32)}, rec 3 f0 A0 f1 A1 p2 = some r → CtrV l yX2_sum cX2_sum 5 none (rmGX2_anyOf d) G [.ref h0, .ref h1, .int p2] (wX2 G h0 a0 f0 A0 ++ (wX7 G h1 a1 f1 A1)) (wX2 G h0 a0 r.2.1 r.1 ++ (wX7 G h1 a1 r.2.2 A1))) (hrec4 : ∀ (l : Launch) (G : Gp) (h0 : Nat) (a0 : Nat → Nat) (h1 : Nat) (a1 : Nat → Nat) (f0 : Nat → Int32) (A0 : Nat → Nat → Int32) (f1 : Nat → Int32) (A1 : Nat → Nat → Int32) (p2 : Int32), ∀ {r : (Nat → Nat → Int32) × (Nat → Int32) × (Nat → Int32)}, rec 4 f0 A0 f1 A1 p2 = some r → CtrV l yX2_term cX2_term 5 none (rmGX2_anyOf d) G [.ref h0, .ref h1, .int p2] (wX2 G h0 a0 f0 A0 ++ (wX7 G h1 a1 f1 A1)) (wX2 G h0 a0 r.2.1 r.1 ++ (wX7 G h1 a1 r.2.2 A1))) (hrec5 : ∀ (l : Launch) (G : Gp) (h0 : Nat) (a0 : Nat → Nat) (h1 : Nat) (a1 : Nat → Nat) (f0 : Nat → Int32) (A0 : Nat → Nat → Int32) (f1 : Nat → Int32) (A1 : Nat → Nat → Int32) (p2 : Int32), ∀ {r : (Nat → Nat → Int32) × (Nat → Int32) × (Nat → Int32)}, rec 5 f0 A0 f1 A1 p2 = some r → CtrV l yX2_factor cX2_factor 4 none (rmGX2_anyOf d) G [.ref h0, .ref h1, .int p2] (wX2 G h0 a0 f0 A0 ++ (wX7 G h1 a1 f1 A1)) (wX2 G h0 a0 r.2.1 r.1 ++ (wX7 G h1 a1 r.2.2 A1))) (hdd : True) (l : Launch) (G : Gp) (h0 : Nat) (a0 : Nat → Nat) (h1 : Nat) (a1 : Nat → Nat) (f0 : Nat → Int32) (A0 : Nat → Nat → Int32) (f1 : Nat → Int32) (A1 : Nat → Nat → Int32) (p2 : Int32) : ∀ {r : (Nat → Nat → Int32) × (Nat → Int32) × (Nat → Int32)}, f2_test rec f0 A0 f1 A1 p2 = some r → CtrV l yX2_test cX2_test 5 none (rmGX2_anyOf (d + 1)) G [.ref h0, .ref h1, .int p2] (wX2 G h0 a0 f0 A0 ++ (wX7 G h1 a1 f1 A1)) (wX2 G h0 a0 r.2.1 r.1 ++ (wX7 G h1 a1 r.2.2 A1)) := by
  intro res h
  refine ctrV_of (cc := cX2_test) (maxL := 5) (ret := none) (by decide +kernel) rfl (Nat.le_of_ble_eq_true rfl) (fun p e s m below meth c DA C0 hP hD ls hl => ?_)
  have hPD : WD G DA (wX2 G h0 a0 f0 A0 ++ (wX7 G h1 a1 f1 A1)) s.heap := ⟨hP, hD⟩
  have hS : va_S DA s.heap s.heap [] := va_S.rf
  have hl : lv_has ls 5 [(0, .ref h0), (1, .ref h1), (2, .int p2)] := hl
  obtain ⟨hx, hb, hml, hown, hts⟩ := C0.1
  have hK := C0.2.2.2.1
  unfold f2_test at h
  refine lv_aload_n hx hb dX2_test_0 rfl (lv_at hl 1 rfl) ?_
  refine kVI (As := []) (rest := []) C0 (kt_X7_look l G h1 a1 f1 A1) gi_V_X2_54_X7_look (n := 0) rfl (by decide +kernel) rfl ⟨rfl, rfl, by simp only [rmGX2_anyOf, rmX7_look]; omega, by simp only [rmGX2_anyOf, rmX7_look]; omega⟩ hPD hS 8 7 rfl rfl rfl [8, 9] [0, 1, 2, 3, 4, 5, 6, 7] [0, 1, 2, 3, 4, 5, 6, 7, 8, 9] (wN := (wX2 G h0 a0 f0 A0 ++ (wX7 G h1 a1 f1 A1))) rfl rfl rfl rfl rfl hl.1 (Nat.le_of_ble_eq_true rfl) dX2_test_1 (fun H locs hPD hS => ?_)
  refine lv_istore_n (lv' := [(3, .int (f7_look f1 A1)), (0, .ref h0), (1, .ref h1), (2, .int p2)]) hx hb dX2_test_4 rfl hl (by decide) rfl (fun ls hl => ?_)
  refine lv_iload_n hx hb dX2_test_5 rfl (lv_at hl 0 rfl) ?_
  refine lv_bipush (v := 33) hx hb dX2_test_6 (by decide) ?_
  refine lv_icmp_ne (tgt := 37) hx hb dX2_test_8 (by decide) (fun cc1 => ?_) (fun cc1 => ?_)
  · have h := (if_neg cc1).symm.trans h
    refine lv_iload_n hx hb dX2_test_37 rfl (lv_at hl 0 rfl) ?_
    refine lv_bipush (v := 40) hx hb dX2_test_38 (by decide) ?_
    refine lv_icmp_ne (tgt := 68) hx hb dX2_test_40 (by decide) (fun cc1 => ?_) (fun cc1 => ?_)
    · have h := (if_neg cc1).symm.trans h
      refine lv_aload_n hx hb dX2_test_68 rfl (lv_at hl 1 rfl) ?_
      refine lv_aload_n hx hb dX2_test_69 rfl (lv_at hl 2 rfl) ?_
      refine lv_iload_n hx hb dX2_test_70 rfl (lv_at hl 3 rfl) ?_
      obtain ⟨q_1, hq_1, h⟩ := ob2 h
      refine kVV (As := [.ref h1, .int p2]) (rest := []) C0 (hrec3 l G h0 a0 h1 a1 f0 A0 f1 A1 p2 hq_1) gi_V_X2_69_X2_sum (n := 2) rfl (by decide +kernel) rfl ⟨rfl, rfl, by simp only [rmGX2_anyOf]; omega, by simp only [rmGX2_anyOf]; omega⟩ hPD hS 0 2 rfl rfl rfl [0, 1, 2, 3, 4, 5, 6, 7, 8, 9] [] [0, 1, 2, 3, 4, 5, 6, 7, 8, 9] (wN := (wX2 G h0 a0 q_1.2.1 q_1.1 ++ (wX7 G h1 a1 q_1.2.2 A1))) rfl rfl rfl rfl rfl hl.1 (Nat.le_of_ble_eq_true rfl) dX2_test_71 (fun H locs hPD hS => ?_)
      refine lv_aload_n hx hb dX2_test_74 rfl (lv_at hl 2 rfl) ?_
      refine kVI (As := []) (rest := []) C0 (kt_X7_look l G h1 a1 q_1.2.2 A1) gi_V_X2_54_X7_look (n := 0) rfl (by decide +kernel) rfl ⟨rfl, rfl, by simp only [rmGX2_anyOf, rmX7_look]; omega, by simp only [rmGX2_anyOf, rmX7_look]; omega⟩ hPD hS 8 7 rfl rfl rfl [8, 9] [0, 1, 2, 3, 4, 5, 6, 7] [0, 1, 2, 3, 4, 5, 6, 7, 8, 9] (wN := (wX2 G h0 a0 q_1.2.1 q_1.1 ++ (wX7 G h1 a1 q_1.2.2 A1))) rfl rfl rfl rfl rfl hl.1 (Nat.le_of_ble_eq_true rfl) dX2_test_75 (fun H locs hPD hS => ?_)
      refine lv_istore (lv' := [(4, .int (f7_look q_1.2.2 A1)), (3, .int (f7_look f1 A1)), (0, .ref h0), (1, .ref h1), (2, .int p2)]) hx hb dX2_test_78 hl (by decide) rfl (fun ls hl => ?_)
      refine lv_iload hx hb dX2_test_80 (lv_at hl 0 rfl) ?_
      refine lv_bipush (v := 60) hx hb dX2_test_82 (by decide) ?_
      refine lv_icmp_eq (tgt := 101) hx hb dX2_test_84 (by decide) (fun cc1 => ?_) (fun cc1 => ?_)
      · have h := (if_pos cc1).symm.trans h
        exact ww_f2_test_b101 hrec0 hrec1 hrec2 hrec3 hrec4 hrec5 hdd C0 q_1.1 q_1.2.1 q_1.2.2 (f7_look q_1.2.2 A1) h _ _ _ hPD hS (lv_sub hl [2, 3, 4, 0] rfl)
      · have h := (if_neg cc1).symm.trans h
        refine lv_iload hx hb dX2_test_87 (lv_at hl 0 rfl) ?_
        refine lv_bipush (v := 62) hx hb dX2_test_89 (by decide) ?_
        refine lv_icmp_eq (tgt := 101) hx hb dX2_test_91 (by decide) (fun cc1 => ?_) (fun cc1 => ?_)
        · have h := (if_pos cc1).symm.trans h
          exact ww_f2_test_b101 hrec0 hrec1 hrec2 hrec3 hrec4 hrec5 hdd C0 q_1.1 q_1.2.1 q_1.2.2 (f7_look q_1.2.2 A1) h _ _ _ hPD hS (lv_sub hl [2, 3, 4, 0] rfl)
        · have h := (if_neg cc1).symm.trans h
          refine lv_iload hx hb dX2_test_94 (lv_at hl 0 rfl) ?_
          refine lv_bipush (v := 61) hx hb dX2_test_96 (by decide) ?_
          refine lv_icmp_ne (tgt := 122) hx hb dX2_test_98 (by decide) (fun cc1 => ?_) (fun cc1 => ?_)
          · have h := (if_neg cc1).symm.trans h
            refine lv_aload_n hx hb dX2_test_122 rfl (lv_at hl 3 rfl) ?_
            refine lv_iconst (v := 1) hx hb dX2_test_123 (by decide) ?_
            obtain ⟨z_5, ez_5, h⟩ := lvl h
            have kc := kt_X7_fail l G h1 a1 q_1.2.2 A1 1
            rw [← ez_5] at kc
            clear ez_5
            refine kVV (As := [.int 1]) (rest := []) C0 (kc) gi_V_X2_58_X7_fail (n := 1) rfl (by decide +kernel) rfl ⟨rfl, rfl, by simp only [rmGX2_anyOf, rmX7_fail]; omega, by simp only [rmGX2_anyOf, rmX7_fail]; omega⟩ hPD hS 8 7 rfl rfl rfl [8, 9] [0, 1, 2, 3, 4, 5, 6, 7] [0, 1, 2, 3, 4, 5, 6, 7, 8, 9] (wN := (wX2 G h0 a0 q_1.2.1 q_1.1 ++ (wX7 G h1 a1 z_5 A1))) rfl rfl rfl rfl rfl hl.1 (Nat.le_of_ble_eq_true rfl) dX2_test_124 (fun H locs hPD hS => ?_)
            obtain rfl := Option.some.inj h
            exact eV C0 hPD.1 hPD.2 hS dX2_test_127
          · have h := (if_pos cc1).symm.trans h
            exact ww_f2_test_b101 hrec0 hrec1 hrec2 hrec3 hrec4 hrec5 hdd C0 q_1.1 q_1.2.1 q_1.2.2 (f7_look q_1.2.2 A1) h _ _ _ hPD hS (lv_sub hl [2, 3, 4, 0] rfl)
    · have h := (if_pos cc1).symm.trans h
      refine lv_aload_n hx hb dX2_test_43 rfl (lv_at hl 2 rfl) ?_
      refine lv_iload_n hx hb dX2_test_44 rfl (lv_at hl 3 rfl) ?_
      obtain ⟨q_6, hq_6, h⟩ := ob2 h
      refine kSI (As := [.ref h1, .int p2]) (rest := []) C0 (kt_X2_opens l G h1 a1 f1 A1 p2 hq_6) gi_S_X2_96_X2_opens (n := 2) rfl (by decide +kernel) ⟨rfl, rfl, by simp only [rmGX2_anyOf, rmX2_opens]; omega, by simp only [rmGX2_anyOf, rmX2_opens]; omega⟩ hPD hS [8, 9] [0, 1, 2, 3, 4, 5, 6, 7] [0, 1, 2, 3, 4, 5, 6, 7, 8, 9] (wN := (wX2 G h0 a0 f0 A0 ++ (wX7 G h1 a1 q_6.2 A1))) rfl rfl rfl rfl rfl hl.1 (Nat.le_of_ble_eq_true rfl) dX2_test_45 (fun H locs hPD hS => ?_)
      refine lv_if_eq (tgt := 127) hx hb dX2_test_48 (by decide) (fun cc1 => ?_) (fun cc1 => ?_)
      · have h := (if_pos cc1).symm.trans h
        obtain rfl := Option.some.inj h
        exact eV C0 hPD.1 hPD.2 hS dX2_test_127
      · have h := (if_neg cc1).symm.trans h
        refine lv_aload_n hx hb dX2_test_51 rfl (lv_at hl 1 rfl) ?_
        refine lv_aload_n hx hb dX2_test_52 rfl (lv_at hl 2 rfl) ?_
        refine lv_iload_n hx hb dX2_test_53 rfl (lv_at hl 3 rfl) ?_
        refine lv_iconst (v := 1) hx hb dX2_test_54 (by decide) ?_
        refine lv_iadd hx hb dX2_test_55 ?_
        obtain ⟨q_7, hq_7, h⟩ := ob2 h
        refine kVV (As := [.ref h1, .int (p2 + 1)]) (rest := []) C0 (hrec0 l G h0 a0 h1 a1 f0 A0 q_6.2 A1 (p2 + 1) hq_7) gi_V_X2_80_X2_anyOf (n := 2) rfl (by decide +kernel) rfl ⟨rfl, rfl, by simp only [rmGX2_anyOf]; omega, by simp only [rmGX2_anyOf]; omega⟩ hPD hS 0 2 rfl rfl rfl [0, 1, 2, 3, 4, 5, 6, 7, 8, 9] [] [0, 1, 2, 3, 4, 5, 6, 7, 8, 9] (wN := (wX2 G h0 a0 q_7.2.1 q_7.1 ++ (wX7 G h1 a1 q_7.2.2 A1))) rfl rfl rfl rfl rfl hl.1 (Nat.le_of_ble_eq_true rfl) dX2_test_56 (fun H locs hPD hS => ?_)
        refine lv_aload_n hx hb dX2_test_59 rfl (lv_at hl 2 rfl) ?_
        refine lv_bipush (v := 41) hx hb dX2_test_60 (by decide) ?_
        obtain ⟨q_8, hq_8, h⟩ := ob2 h
        refine kSV (As := [.ref h1, .int 41]) (rest := []) C0 (kt_X2_close l G h1 a1 q_7.2.2 A1 41 hq_8) gi_S_X2_83_X2_close (n := 2) rfl (by decide +kernel) ⟨rfl, rfl, by simp only [rmGX2_anyOf, rmX2_close]; omega, by simp only [rmGX2_anyOf, rmX2_close]; omega⟩ hPD hS [8, 9] [0, 1, 2, 3, 4, 5, 6, 7] [0, 1, 2, 3, 4, 5, 6, 7, 8, 9] (wN := (wX2 G h0 a0 q_7.2.1 q_7.1 ++ (wX7 G h1 a1 q_8 A1))) rfl rfl rfl rfl rfl hl.1 (Nat.le_of_ble_eq_true rfl) dX2_test_62 (fun H locs hPD hS => ?_)
        refine lv_goto (tgt := 127) hx hb dX2_test_65 (by decide) ?_
        obtain rfl := Option.some.inj h
        exact eV C0 hPD.1 hPD.2 hS dX2_test_127
  · have h := (if_pos cc1).symm.trans h
    refine lv_aload_n hx hb dX2_test_11 rfl (lv_at hl 2 rfl) ?_
    refine lv_iload_n hx hb dX2_test_12 rfl (lv_at hl 3 rfl) ?_
    obtain ⟨q_9, hq_9, h⟩ := ob2 h
    refine kSI (As := [.ref h1, .int p2]) (rest := []) C0 (kt_X2_opens l G h1 a1 f1 A1 p2 hq_9) gi_S_X2_96_X2_opens (n := 2) rfl (by decide +kernel) ⟨rfl, rfl, by simp only [rmGX2_anyOf, rmX2_opens]; omega, by simp only [rmGX2_anyOf, rmX2_opens]; omega⟩ hPD hS [8, 9] [0, 1, 2, 3, 4, 5, 6, 7] [0, 1, 2, 3, 4, 5, 6, 7, 8, 9] (wN := (wX2 G h0 a0 f0 A0 ++ (wX7 G h1 a1 q_9.2 A1))) rfl rfl rfl rfl rfl hl.1 (Nat.le_of_ble_eq_true rfl) dX2_test_13 (fun H locs hPD hS => ?_)
    refine lv_if_eq (tgt := 127) hx hb dX2_test_16 (by decide) (fun cc1 => ?_) (fun cc1 => ?_)
    · have h := (if_pos cc1).symm.trans h
      obtain rfl := Option.some.inj h
      exact eV C0 hPD.1 hPD.2 hS dX2_test_127
    · have h := (if_neg cc1).symm.trans h
      refine lv_aload_n hx hb dX2_test_19 rfl (lv_at hl 1 rfl) ?_
      refine lv_aload_n hx hb dX2_test_20 rfl (lv_at hl 2 rfl) ?_
      refine lv_iload_n hx hb dX2_test_21 rfl (lv_at hl 3 rfl) ?_
      refine lv_iconst (v := 1) hx hb dX2_test_22 (by decide) ?_
      refine lv_iadd hx hb dX2_test_23 ?_
      obtain ⟨q_10, hq_10, h⟩ := ob2 h
      refine kVV (As := [.ref h1, .int (p2 + 1)]) (rest := []) C0 (hrec2 l G h0 a0 h1 a1 f0 A0 q_9.2 A1 (p2 + 1) hq_10) gi_V_X2_93_X2_test (n := 2) rfl (by decide +kernel) rfl ⟨rfl, rfl, by simp only [rmGX2_anyOf]; omega, by simp only [rmGX2_anyOf]; omega⟩ hPD hS 0 2 rfl rfl rfl [0, 1, 2, 3, 4, 5, 6, 7, 8, 9] [] [0, 1, 2, 3, 4, 5, 6, 7, 8, 9] (wN := (wX2 G h0 a0 q_10.2.1 q_10.1 ++ (wX7 G h1 a1 q_10.2.2 A1))) rfl rfl rfl rfl rfl hl.1 (Nat.le_of_ble_eq_true rfl) dX2_test_24 (fun H locs hPD hS => ?_)
      refine lv_aload_n hx hb dX2_test_27 rfl (lv_at hl 1 rfl) ?_
      refine lv_iconst (v := 3) hx hb dX2_test_28 (by decide) ?_
      refine lv_iconst (v := 0) hx hb dX2_test_29 (by decide) ?_
      obtain ⟨q_11, hq_11, h⟩ := ob2 h
      refine kVI (As := [.int 3, .int 0]) (rest := []) C0 (kt_X2_order l G h0 a0 q_10.2.1 q_10.1 3 0 hq_11) gi_V_X2_89_X2_order (n := 2) rfl (by decide +kernel) rfl ⟨rfl, rfl, by simp only [rmGX2_anyOf, rmX2_order]; omega, by simp only [rmGX2_anyOf, rmX2_order]; omega⟩ hPD hS 0 2 rfl rfl rfl [0, 1, 2, 3, 4, 5, 6, 7] [8, 9] [2, 3, 4, 5, 6, 7, 8, 9, 0, 1] (wN := (wX2 G h0 a0 q_11.2.2 q_11.2.1 ++ (wX7 G h1 a1 q_10.2.2 A1))) rfl rfl rfl rfl rfl hl.1 (Nat.le_of_ble_eq_true rfl) dX2_test_30 (fun H locs hPD hS => ?_)
      refine lv_pop hx hb dX2_test_33 rfl ?_
      refine lv_goto (tgt := 127) hx hb dX2_test_34 (by decide) ?_
      obtain rfl := Option.some.inj h
      exact eV C0 hPD.1 hPD.2 hS dX2_test_127

set_option maxRecDepth 100000 in
set_option maxHeartbeats 4000000 in
theorem ww_f2_sum_b43 {d : Nat} {rec : Nat → (Nat → Int32) → (Nat → Nat → Int32) → (Nat → Int32) → (Nat → Nat → Int32) → Int32 → Option ((Nat → Nat → Int32) × (Nat → Int32) × (Nat → Int32))} (hrec0 : ∀ (l : Launch) (G : Gp) (h0 : Nat) (a0 : Nat → Nat) (h1 : Nat) (a1 : Nat → Nat) (f0 : Nat → Int32) (A0 : Nat → Nat → Int32) (f1 : Nat → Int32) (A1 : Nat → Nat → Int32) (p2 : Int32), ∀ {r : (Nat → Nat → Int32) × (Nat → Int32) × (Nat → Int32)}, rec 0 f0 A0 f1 A1 p2 = some r → CtrV l yX2_anyOf cX2_anyOf 5 none (rmGX2_anyOf d) G [.ref h0, .ref h1, .int p2] (wX2 G h0 a0 f0 A0 ++ (wX7 G h1 a1 f1 A1)) (wX2 G h0 a0 r.2.1 r.1 ++ (wX7 G h1 a1 r.2.2 A1))) (hrec1 : ∀ (l : Launch) (G : Gp) (h0 : Nat) (a0 : Nat → Nat) (h1 : Nat) (a1 : Nat → Nat) (f0 : Nat → Int32) (A0 : Nat → Nat → Int32) (f1 : Nat → Int32) (A1 : Nat → Nat → Int32) (p2 : Int32), ∀ {r : (Nat → Nat → Int32) × (Nat → Int32) × (Nat → Int32)}, rec 1 f0 A0 f1 A1 p2 = some r → CtrV l yX2_allOf cX2_allOf 5 none (rmGX2_anyOf d) G [.ref h0, .ref h1, .int p2] (wX2 G h0 a0 f0 A0 ++ (wX7 G h1 a1 f1 A1)) (wX2 G h0 a0 r.2.1 r.1 ++ (wX7 G h1 a1 r.2.2 A1))) (hrec2 : ∀ (l : Launch) (G : Gp) (h0 : Nat) (a0 : Nat → Nat) (h1 : Nat) (a1 : Nat → Nat) (f0 : Nat → Int32) (A0 : Nat → Nat → Int32) (f1 : Nat → Int32) (A1 : Nat → Nat → Int32) (p2 : Int32), ∀ {r : (Nat → Nat → Int32) × (Nat → Int32) × (Nat → Int32)}, rec 2 f0 A0 f1 A1 p2 = some r → CtrV l yX2_test cX2_test 5 none (rmGX2_anyOf d) G [.ref h0, .ref h1, .int p2] (wX2 G h0 a0 f0 A0 ++ (wX7 G h1 a1 f1 A1)) (wX2 G h0 a0 r.2.1 r.1 ++ (wX7 G h1 a1 r.2.2 A1))) (hrec3 : ∀ (l : Launch) (G : Gp) (h0 : Nat) (a0 : Nat → Nat) (h1 : Nat) (a1 : Nat → Nat) (f0 : Nat → Int32) (A0 : Nat → Nat → Int32) (f1 : Nat → Int32) (A1 : Nat → Nat → Int32) (p2 : Int32), ∀ {r : (Nat → Nat → Int32) × (Nat → Int32) × (Nat → Int32)}, rec 3 f0 A0 f1 A1 p2 = some r → CtrV l yX2_sum cX2_sum 5 none (rmGX2_anyOf d) G [.ref h0, .ref h1, .int p2] (wX2 G h0 a0 f0 A0 ++ (wX7 G h1 a1 f1 A1)) (wX2 G h0 a0 r.2.1 r.1 ++ (wX7 G h1 a1 r.2.2 A1))) (hrec4 : ∀ (l : Launch) (G : Gp) (h0 : Nat) (a0 : Nat → Nat) (h1 : Nat) (a1 : Nat → Nat) (f0 : Nat → Int32) (A0 : Nat → Nat → Int32) (f1 : Nat → Int32) (A1 : Nat → Nat → Int32) (p2 : Int32), ∀ {r : (Nat → Nat → Int32) × (Nat → Int32) × (Nat → Int32)}, rec 4 f0 A0 f1 A1 p2 = some r → CtrV l yX2_term cX2_term 5 none (rmGX2_anyOf d) G [.ref h0, .ref h1, .int p2] (wX2 G h0 a0 f0 A0 ++ (wX7 G h1 a1 f1 A1)) (wX2 G h0 a0 r.2.1 r.1 ++ (wX7 G h1 a1 r.2.2 A1))) (hrec5 : ∀ (l : Launch) (G : Gp) (h0 : Nat) (a0 : Nat → Nat) (h1 : Nat) (a1 : Nat → Nat) (f0 : Nat → Int32) (A0 : Nat → Nat → Int32) (f1 : Nat → Int32) (A1 : Nat → Nat → Int32) (p2 : Int32), ∀ {r : (Nat → Nat → Int32) × (Nat → Int32) × (Nat → Int32)}, rec 5 f0 A0 f1 A1 p2 = some r → CtrV l yX2_factor cX2_factor 4 none (rmGX2_anyOf d) G [.ref h0, .ref h1, .int p2] (wX2 G h0 a0 f0 A0 ++ (wX7 G h1 a1 f1 A1)) (wX2 G h0 a0 r.2.1 r.1 ++ (wX7 G h1 a1 r.2.2 A1))) (hdd : True)  (C0 : Cx cX2_sum 5 none RX2 p s m args meth c G DA) {h0 : Nat} {a0 : Nat → Nat} {h1 : Nat} {a1 : Nat → Nat} {A1 : Nat → Nat → Int32} {p2 : Int32}  {k8 : (Nat → Nat → Int32) → (Nat → Int32) → (Nat → Int32) → Int32 → Option ((Nat → Nat → Int32) × (Nat → Int32) × (Nat → Int32))} {res : (Nat → Nat → Int32) × (Nat → Int32) × (Nat → Int32)} (hk8 : ∀ (A0 : Nat → Nat → Int32) (f0 : Nat → Int32) (f1 : Nat → Int32) (l3 : Int32), k8 A0 f0 f1 l3 = some res → ∀ (H : Heap) (locs : List Loc) (ls : Array Slot), WD G DA (wX2 G h0 a0 f0 A0 ++ (wX7 G h1 a1 f1 A1)) H → va_S DA s.heap H locs → lv_has ls 5 [(0, .ref h0), (1, .ref h1), (2, .int p2), (3, .int l3)] → W p l e (rmGX2_anyOf (d + 1)) s m args below meth c H locs 0 0 (MQ below (QV G DA (wX2 G h0 a0 res.2.1 res.1 ++ (wX7 G h1 a1 res.2.2 A1))) args s 0 0 DA) (F0 m 8 ls [])) : ∀ (A0 : Nat → Nat → Int32) (f0 : Nat → Int32) (f1 : Nat → Int32) (l3 : Int32) (l4 : Int32), f2_sum_b43 rec A1 p2 k8 A0 f0 f1 l3 l4 = some res → ∀ (H : Heap) (locs : List Loc) (ls : Array Slot), WD G DA (wX2 G h0 a0 f0 A0 ++ (wX7 G h1 a1 f1 A1)) H → va_S DA s.heap H locs → lv_has ls 5 [(0, .ref h0), (1, .ref h1), (2, .int p2), (3, .int l3), (4, .int l4)] → W p l e (rmGX2_anyOf (d + 1)) s m args below meth c H locs 0 0 (MQ below (QV G DA (wX2 G h0 a0 res.2.1 res.1 ++ (wX7 G h1 a1 res.2.2 A1))) args s 0 0 DA) (F0 m 43 ls []) := by
  obtain ⟨hx, hb, hml, hown, hts⟩ := C0.1
  have hK := C0.2.2.2.1
  intro A0 f0 f1 l3 l4 h _ _ _ hPD hS hl
  unfold f2_sum_b43 at h
  refine lv_aload_n hx hb dX2_sum_43 rfl (lv_at hl 1 rfl) ?_
  obtain ⟨z_2, ez_2, h⟩ := lvl h
  have kc := kt_X7_step l G h1 a1 f1 A1
  rw [← ez_2] at kc
  clear ez_2
  refine kVV (As := []) (rest := []) C0 (kc) gi_V_X2_62_X7_step (n := 0) rfl (by decide +kernel) rfl ⟨rfl, rfl, by simp only [rmGX2_anyOf, rmX7_step]; omega, by simp only [rmGX2_anyOf, rmX7_step]; omega⟩ hPD hS 8 7 rfl rfl rfl [8, 9] [0, 1, 2, 3, 4, 5, 6, 7] [0, 1, 2, 3, 4, 5, 6, 7, 8, 9] (wN := (wX2 G h0 a0 f0 A0 ++ (wX7 G h1 a1 z_2 A1))) rfl rfl rfl rfl rfl hl.1 (Nat.le_of_ble_eq_true rfl) dX2_sum_44 (fun H locs hPD hS => ?_)
  refine lv_aload_n hx hb dX2_sum_47 rfl (lv_at hl 0 rfl) ?_
  refine lv_aload_n hx hb dX2_sum_48 rfl (lv_at hl 1 rfl) ?_
  refine lv_iload_n hx hb dX2_sum_49 rfl (lv_at hl 2 rfl) ?_
  obtain ⟨q_3, hq_3, h⟩ := ob2 h
  refine kVV (As := [.ref h1, .int p2]) (rest := []) C0 (hrec4 l G h0 a0 h1 a1 f0 A0 z_2 A1 p2 hq_3) gi_V_X2_100_X2_term (n := 2) rfl (by decide +kernel) rfl ⟨rfl, rfl, by simp only [rmGX2_anyOf]; omega, by simp only [rmGX2_anyOf]; omega⟩ hPD hS 0 2 rfl rfl rfl [0, 1, 2, 3, 4, 5, 6, 7, 8, 9] [] [0, 1, 2, 3, 4, 5, 6, 7, 8, 9] (wN := (wX2 G h0 a0 q_3.2.1 q_3.1 ++ (wX7 G h1 a1 q_3.2.2 A1))) rfl rfl rfl rfl rfl hl.1 (Nat.le_of_ble_eq_true rfl) dX2_sum_50 (fun H locs hPD hS => ?_)
  refine lv_aload_n hx hb dX2_sum_53 rfl (lv_at hl 0 rfl) ?_
  refine lv_iload hx hb dX2_sum_54 (lv_at hl 4 rfl) ?_
  refine lv_iconst (v := 0) hx hb dX2_sum_56 (by decide) ?_
  obtain ⟨q_4, hq_4, h⟩ := ob2 h
  refine kVI (As := [.int l4, .int 0]) (rest := []) C0 (kt_X2_order l G h0 a0 q_3.2.1 q_3.1 l4 0 hq_4) gi_V_X2_89_X2_order (n := 2) rfl (by decide +kernel) rfl ⟨rfl, rfl, by simp only [rmGX2_anyOf, rmX2_order]; omega, by simp only [rmGX2_anyOf, rmX2_order]; omega⟩ hPD hS 0 2 rfl rfl rfl [0, 1, 2, 3, 4, 5, 6, 7] [8, 9] [2, 3, 4, 5, 6, 7, 8, 9, 0, 1] (wN := (wX2 G h0 a0 q_4.2.2 q_4.2.1 ++ (wX7 G h1 a1 q_3.2.2 A1))) rfl rfl rfl rfl rfl hl.1 (Nat.le_of_ble_eq_true rfl) dX2_sum_57 (fun H locs hPD hS => ?_)
  refine lv_pop hx hb dX2_sum_60 rfl ?_
  refine lv_iinc (v := l3 + 1) (lv' := [(3, .int (l3 + 1)), (0, .ref h0), (1, .ref h1), (2, .int p2), (4, .int l4)]) hx hb dX2_sum_61 hl (k := 3) rfl rfl (by decide) rfl (fun ls hl => ?_)
  refine lv_goto (tgt := 8) hx hb dX2_sum_64 (by decide) ?_
  exact hk8 q_4.2.1 q_4.2.2 q_3.2.2 (l3 + 1) h _ _ _ hPD hS (lv_sub hl [1, 2, 3, 0] rfl)
set_option maxRecDepth 100000 in
set_option maxHeartbeats 4000000 in
theorem ww_f2_sum_b8 {d : Nat} {rec : Nat → (Nat → Int32) → (Nat → Nat → Int32) → (Nat → Int32) → (Nat → Nat → Int32) → Int32 → Option ((Nat → Nat → Int32) × (Nat → Int32) × (Nat → Int32))} (hrec0 : ∀ (l : Launch) (G : Gp) (h0 : Nat) (a0 : Nat → Nat) (h1 : Nat) (a1 : Nat → Nat) (f0 : Nat → Int32) (A0 : Nat → Nat → Int32) (f1 : Nat → Int32) (A1 : Nat → Nat → Int32) (p2 : Int32), ∀ {r : (Nat → Nat → Int32) × (Nat → Int32) × (Nat → Int32)}, rec 0 f0 A0 f1 A1 p2 = some r → CtrV l yX2_anyOf cX2_anyOf 5 none (rmGX2_anyOf d) G [.ref h0, .ref h1, .int p2] (wX2 G h0 a0 f0 A0 ++ (wX7 G h1 a1 f1 A1)) (wX2 G h0 a0 r.2.1 r.1 ++ (wX7 G h1 a1 r.2.2 A1))) (hrec1 : ∀ (l : Launch) (G : Gp) (h0 : Nat) (a0 : Nat → Nat) (h1 : Nat) (a1 : Nat → Nat) (f0 : Nat → Int32) (A0 : Nat → Nat → Int32) (f1 : Nat → Int32) (A1 : Nat → Nat → Int32) (p2 : Int32), ∀ {r : (Nat → Nat → Int32) × (Nat → Int32) × (Nat → Int32)}, rec 1 f0 A0 f1 A1 p2 = some r → CtrV l yX2_allOf cX2_allOf 5 none (rmGX2_anyOf d) G [.ref h0, .ref h1, .int p2] (wX2 G h0 a0 f0 A0 ++ (wX7 G h1 a1 f1 A1)) (wX2 G h0 a0 r.2.1 r.1 ++ (wX7 G h1 a1 r.2.2 A1))) (hrec2 : ∀ (l : Launch) (G : Gp) (h0 : Nat) (a0 : Nat → Nat) (h1 : Nat) (a1 : Nat → Nat) (f0 : Nat → Int32) (A0 : Nat → Nat → Int32) (f1 : Nat → Int32) (A1 : Nat → Nat → Int32) (p2 : Int32), ∀ {r : (Nat → Nat → Int32) × (Nat → Int32) × (Nat → Int32)}, rec 2 f0 A0 f1 A1 p2 = some r → CtrV l yX2_test cX2_test 5 none (rmGX2_anyOf d) G [.ref h0, .ref h1, .int p2] (wX2 G h0 a0 f0 A0 ++ (wX7 G h1 a1 f1 A1)) (wX2 G h0 a0 r.2.1 r.1 ++ (wX7 G h1 a1 r.2.2 A1))) (hrec3 : ∀ (l : Launch) (G : Gp) (h0 : Nat) (a0 : Nat → Nat) (h1 : Nat) (a1 : Nat → Nat) (f0 : Nat → Int32) (A0 : Nat → Nat → Int32) (f1 : Nat → Int32) (A1 : Nat → Nat → Int32) (p2 : Int32), ∀ {r : (Nat → Nat → Int32) × (Nat → Int32) × (Nat → Int32)}, rec 3 f0 A0 f1 A1 p2 = some r → CtrV l yX2_sum cX2_sum 5 none (rmGX2_anyOf d) G [.ref h0, .ref h1, .int p2] (wX2 G h0 a0 f0 A0 ++ (wX7 G h1 a1 f1 A1)) (wX2 G h0 a0 r.2.1 r.1 ++ (wX7 G h1 a1 r.2.2 A1))) (hrec4 : ∀ (l : Launch) (G : Gp) (h0 : Nat) (a0 : Nat → Nat) (h1 : Nat) (a1 : Nat → Nat) (f0 : Nat → Int32) (A0 : Nat → Nat → Int32) (f1 : Nat → Int32) (A1 : Nat → Nat → Int32) (p2 : Int32), ∀ {r : (Nat → Nat → Int32) × (Nat → Int32) × (Nat → Int32)}, rec 4 f0 A0 f1 A1 p2 = some r → CtrV l yX2_term cX2_term 5 none (rmGX2_anyOf d) G [.ref h0, .ref h1, .int p2] (wX2 G h0 a0 f0 A0 ++ (wX7 G h1 a1 f1 A1)) (wX2 G h0 a0 r.2.1 r.1 ++ (wX7 G h1 a1 r.2.2 A1))) (hrec5 : ∀ (l : Launch) (G : Gp) (h0 : Nat) (a0 : Nat → Nat) (h1 : Nat) (a1 : Nat → Nat) (f0 : Nat → Int32) (A0 : Nat → Nat → Int32) (f1 : Nat → Int32) (A1 : Nat → Nat → Int32) (p2 : Int32), ∀ {r : (Nat → Nat → Int32) × (Nat → Int32) × (Nat → Int32)}, rec 5 f0 A0 f1 A1 p2 = some r → CtrV l yX2_factor cX2_factor 4 none (rmGX2_anyOf d) G [.ref h0, .ref h1, .int p2] (wX2 G h0 a0 f0 A0 ++ (wX7 G h1 a1 f1 A1)) (wX2 G h0 a0 r.2.1 r.1 ++ (wX7 G h1 a1 r.2.2 A1))) (hdd : True)  (C0 : Cx cX2_sum 5 none RX2 p s m args meth c G DA) {h0 : Nat} {a0 : Nat → Nat} {h1 : Nat} {a1 : Nat → Nat} {A1 : Nat → Nat → Int32} {p2 : Int32}  {k8 : (Nat → Nat → Int32) → (Nat → Int32) → (Nat → Int32) → Int32 → Option ((Nat → Nat → Int32) × (Nat → Int32) × (Nat → Int32))} {res : (Nat → Nat → Int32) × (Nat → Int32) × (Nat → Int32)}  (hk8 : ∀ (A0 : Nat → Nat → Int32) (f0 : Nat → Int32) (f1 : Nat → Int32) (l3 : Int32), k8 A0 f0 f1 l3 = some res → ∀ (H : Heap) (locs : List Loc) (ls : Array Slot), WD G DA (wX2 G h0 a0 f0 A0 ++ (wX7 G h1 a1 f1 A1)) H → va_S DA s.heap H locs → lv_has ls 5 [(0, .ref h0), (1, .ref h1), (2, .int p2), (3, .int l3)] → W p l e (rmGX2_anyOf (d + 1)) s m args below meth c H locs 0 0 (MQ below (QV G DA (wX2 G h0 a0 res.2.1 res.1 ++ (wX7 G h1 a1 res.2.2 A1))) args s 0 0 DA) (F0 m 8 ls [])) : ∀ (A0 : Nat → Nat → Int32) (f0 : Nat → Int32) (f1 : Nat → Int32) (l3 : Int32), f2_sum_b8 rec A1 p2  k8 A0 f0 f1 l3 = some res → ∀ (H : Heap) (locs : List Loc) (ls : Array Slot), WD G DA (wX2 G h0 a0 f0 A0 ++ (wX7 G h1 a1 f1 A1)) H → va_S DA s.heap H locs → lv_has ls 5 [(0, .ref h0), (1, .ref h1), (2, .int p2), (3, .int l3)] → W p l e (rmGX2_anyOf (d + 1)) s m args below meth c H locs 0 0 (MQ below (QV G DA (wX2 G h0 a0 res.2.1 res.1 ++ (wX7 G h1 a1 res.2.2 A1))) args s 0 0 DA) (F0 m 8 ls []) := by
  obtain ⟨hx, hb, hml, hown, hts⟩ := C0.1
  have hK := C0.2.2.2.1
  intro A0 f0 f1 l3 h _ _ _ hPD hS hl
  unfold f2_sum_b8 at h
  refine lv_iload_n hx hb dX2_sum_8 rfl (lv_at hl 3 rfl) ?_
  refine lv_sipush (v := 240) hx hb dX2_sum_9 (by decide) ?_
  refine lv_icmp_ge (tgt := 67) hx hb dX2_sum_12 (by decide) (fun cc1 => ?_) (fun cc1 => ?_)
  · have h := (if_pos cc1).symm.trans h
    obtain rfl := Option.some.inj h
    exact eV C0 hPD.1 hPD.2 hS dX2_sum_67
  · have h := (if_neg cc1).symm.trans h
    refine lv_aload_n hx hb dX2_sum_15 rfl (lv_at hl 1 rfl) ?_
    refine kVI (As := []) (rest := []) C0 (kt_X7_isFine l G h1 a1 f1 A1) gi_V_X2_73_X7_isFine (n := 0) rfl (by decide +kernel) rfl ⟨rfl, rfl, by simp only [rmGX2_anyOf, rmX7_isFine]; omega, by simp only [rmGX2_anyOf, rmX7_isFine]; omega⟩ hPD hS 8 7 rfl rfl rfl [8, 9] [0, 1, 2, 3, 4, 5, 6, 7] [0, 1, 2, 3, 4, 5, 6, 7, 8, 9] (wN := (wX2 G h0 a0 f0 A0 ++ (wX7 G h1 a1 f1 A1))) rfl rfl rfl rfl rfl hl.1 (Nat.le_of_ble_eq_true rfl) dX2_sum_16 (fun H locs hPD hS => ?_)
    refine lv_if_eq (tgt := 67) hx hb dX2_sum_19 (by decide) (fun cc1 => ?_) (fun cc1 => ?_)
    · have h := (if_pos cc1).symm.trans h
      obtain rfl := Option.some.inj h
      exact eV C0 hPD.1 hPD.2 hS dX2_sum_67
    · have h := (if_neg cc1).symm.trans h
      refine lv_aload_n hx hb dX2_sum_22 rfl (lv_at hl 1 rfl) ?_
      refine kVI (As := []) (rest := []) C0 (kt_X7_look l G h1 a1 f1 A1) gi_V_X2_54_X7_look (n := 0) rfl (by decide +kernel) rfl ⟨rfl, rfl, by simp only [rmGX2_anyOf, rmX7_look]; omega, by simp only [rmGX2_anyOf, rmX7_look]; omega⟩ hPD hS 8 7 rfl rfl rfl [8, 9] [0, 1, 2, 3, 4, 5, 6, 7] [0, 1, 2, 3, 4, 5, 6, 7, 8, 9] (wN := (wX2 G h0 a0 f0 A0 ++ (wX7 G h1 a1 f1 A1))) rfl rfl rfl rfl rfl hl.1 (Nat.le_of_ble_eq_true rfl) dX2_sum_23 (fun H locs hPD hS => ?_)
      refine lv_istore (lv' := [(4, .int (f7_look f1 A1)), (0, .ref h0), (1, .ref h1), (2, .int p2), (3, .int l3)]) hx hb dX2_sum_26 hl (by decide) rfl (fun ls hl => ?_)
      refine lv_iload hx hb dX2_sum_28 (lv_at hl 0 rfl) ?_
      refine lv_bipush (v := 43) hx hb dX2_sum_30 (by decide) ?_
      refine lv_icmp_eq (tgt := 43) hx hb dX2_sum_32 (by decide) (fun cc1 => ?_) (fun cc1 => ?_)
      · have h := (if_pos cc1).symm.trans h
        exact ww_f2_sum_b43 hrec0 hrec1 hrec2 hrec3 hrec4 hrec5 hdd C0 hk8 A0 f0 f1 l3 (f7_look f1 A1) h _ _ _ hPD hS (lv_sub hl [1, 2, 3, 4, 0] rfl)
      · have h := (if_neg cc1).symm.trans h
        refine lv_iload hx hb dX2_sum_35 (lv_at hl 0 rfl) ?_
        refine lv_bipush (v := 45) hx hb dX2_sum_37 (by decide) ?_
        refine lv_icmp_eq (tgt := 43) hx hb dX2_sum_39 (by decide) (fun cc1 => ?_) (fun cc1 => ?_)
        · have h := (if_pos cc1).symm.trans h
          exact ww_f2_sum_b43 hrec0 hrec1 hrec2 hrec3 hrec4 hrec5 hdd C0 hk8 A0 f0 f1 l3 (f7_look f1 A1) h _ _ _ hPD hS (lv_sub hl [1, 2, 3, 4, 0] rfl)
        · have h := (if_neg cc1).symm.trans h
          obtain rfl := Option.some.inj h
          exact eV C0 hPD.1 hPD.2 hS dX2_sum_42
set_option maxRecDepth 100000 in
set_option maxHeartbeats 4000000 in
theorem ww_f2_sum_l8 {d : Nat} {rec : Nat → (Nat → Int32) → (Nat → Nat → Int32) → (Nat → Int32) → (Nat → Nat → Int32) → Int32 → Option ((Nat → Nat → Int32) × (Nat → Int32) × (Nat → Int32))} (hrec0 : ∀ (l : Launch) (G : Gp) (h0 : Nat) (a0 : Nat → Nat) (h1 : Nat) (a1 : Nat → Nat) (f0 : Nat → Int32) (A0 : Nat → Nat → Int32) (f1 : Nat → Int32) (A1 : Nat → Nat → Int32) (p2 : Int32), ∀ {r : (Nat → Nat → Int32) × (Nat → Int32) × (Nat → Int32)}, rec 0 f0 A0 f1 A1 p2 = some r → CtrV l yX2_anyOf cX2_anyOf 5 none (rmGX2_anyOf d) G [.ref h0, .ref h1, .int p2] (wX2 G h0 a0 f0 A0 ++ (wX7 G h1 a1 f1 A1)) (wX2 G h0 a0 r.2.1 r.1 ++ (wX7 G h1 a1 r.2.2 A1))) (hrec1 : ∀ (l : Launch) (G : Gp) (h0 : Nat) (a0 : Nat → Nat) (h1 : Nat) (a1 : Nat → Nat) (f0 : Nat → Int32) (A0 : Nat → Nat → Int32) (f1 : Nat → Int32) (A1 : Nat → Nat → Int32) (p2 : Int32), ∀ {r : (Nat → Nat → Int32) × (Nat → Int32) × (Nat → Int32)}, rec 1 f0 A0 f1 A1 p2 = some r → CtrV l yX2_allOf cX2_allOf 5 none (rmGX2_anyOf d) G [.ref h0, .ref h1, .int p2] (wX2 G h0 a0 f0 A0 ++ (wX7 G h1 a1 f1 A1)) (wX2 G h0 a0 r.2.1 r.1 ++ (wX7 G h1 a1 r.2.2 A1))) (hrec2 : ∀ (l : Launch) (G : Gp) (h0 : Nat) (a0 : Nat → Nat) (h1 : Nat) (a1 : Nat → Nat) (f0 : Nat → Int32) (A0 : Nat → Nat → Int32) (f1 : Nat → Int32) (A1 : Nat → Nat → Int32) (p2 : Int32), ∀ {r : (Nat → Nat → Int32) × (Nat → Int32) × (Nat → Int32)}, rec 2 f0 A0 f1 A1 p2 = some r → CtrV l yX2_test cX2_test 5 none (rmGX2_anyOf d) G [.ref h0, .ref h1, .int p2] (wX2 G h0 a0 f0 A0 ++ (wX7 G h1 a1 f1 A1)) (wX2 G h0 a0 r.2.1 r.1 ++ (wX7 G h1 a1 r.2.2 A1))) (hrec3 : ∀ (l : Launch) (G : Gp) (h0 : Nat) (a0 : Nat → Nat) (h1 : Nat) (a1 : Nat → Nat) (f0 : Nat → Int32) (A0 : Nat → Nat → Int32) (f1 : Nat → Int32) (A1 : Nat → Nat → Int32) (p2 : Int32), ∀ {r : (Nat → Nat → Int32) × (Nat → Int32) × (Nat → Int32)}, rec 3 f0 A0 f1 A1 p2 = some r → CtrV l yX2_sum cX2_sum 5 none (rmGX2_anyOf d) G [.ref h0, .ref h1, .int p2] (wX2 G h0 a0 f0 A0 ++ (wX7 G h1 a1 f1 A1)) (wX2 G h0 a0 r.2.1 r.1 ++ (wX7 G h1 a1 r.2.2 A1))) (hrec4 : ∀ (l : Launch) (G : Gp) (h0 : Nat) (a0 : Nat → Nat) (h1 : Nat) (a1 : Nat → Nat) (f0 : Nat → Int32) (A0 : Nat → Nat → Int32) (f1 : Nat → Int32) (A1 : Nat → Nat → Int32) (p2 : Int32), ∀ {r : (Nat → Nat → Int32) × (Nat → Int32) × (Nat → Int32)}, rec 4 f0 A0 f1 A1 p2 = some r → CtrV l yX2_term cX2_term 5 none (rmGX2_anyOf d) G [.ref h0, .ref h1, .int p2] (wX2 G h0 a0 f0 A0 ++ (wX7 G h1 a1 f1 A1)) (wX2 G h0 a0 r.2.1 r.1 ++ (wX7 G h1 a1 r.2.2 A1))) (hrec5 : ∀ (l : Launch) (G : Gp) (h0 : Nat) (a0 : Nat → Nat) (h1 : Nat) (a1 : Nat → Nat) (f0 : Nat → Int32) (A0 : Nat → Nat → Int32) (f1 : Nat → Int32) (A1 : Nat → Nat → Int32) (p2 : Int32), ∀ {r : (Nat → Nat → Int32) × (Nat → Int32) × (Nat → Int32)}, rec 5 f0 A0 f1 A1 p2 = some r → CtrV l yX2_factor cX2_factor 4 none (rmGX2_anyOf d) G [.ref h0, .ref h1, .int p2] (wX2 G h0 a0 f0 A0 ++ (wX7 G h1 a1 f1 A1)) (wX2 G h0 a0 r.2.1 r.1 ++ (wX7 G h1 a1 r.2.2 A1))) (hdd : True)  (C0 : Cx cX2_sum 5 none RX2 p s m args meth c G DA) {h0 : Nat} {a0 : Nat → Nat} {h1 : Nat} {a1 : Nat → Nat} {A1 : Nat → Nat → Int32} {p2 : Int32}   {res : (Nat → Nat → Int32) × (Nat → Int32) × (Nat → Int32)}  : ∀ (n : Nat) (A0 : Nat → Nat → Int32) (f0 : Nat → Int32) (f1 : Nat → Int32) (l3 : Int32), f2_sum_l8 rec A1 p2  n A0 f0 f1 l3 = some res → ∀ (H : Heap) (locs : List Loc) (ls : Array Slot), WD G DA (wX2 G h0 a0 f0 A0 ++ (wX7 G h1 a1 f1 A1)) H → va_S DA s.heap H locs → lv_has ls 5 [(0, .ref h0), (1, .ref h1), (2, .int p2), (3, .int l3)] → W p l e (rmGX2_anyOf (d + 1)) s m args below meth c H locs 0 0 (MQ below (QV G DA (wX2 G h0 a0 res.2.1 res.1 ++ (wX7 G h1 a1 res.2.2 A1))) args s 0 0 DA) (F0 m 8 ls []) := by
  intro n
  induction n with
  | zero => intro A0 f0 f1 l3 h; cases h
  | succ n ih => intro A0 f0 f1 l3 h; exact ww_f2_sum_b8 hrec0 hrec1 hrec2 hrec3 hrec4 hrec5 hdd C0  ih A0 f0 f1 l3 h
set_option maxRecDepth 100000 in
set_option maxHeartbeats 4000000 in
theorem ko_X2_sum {d : Nat} {rec : Nat → (Nat → Int32) → (Nat → Nat → Int32) → (Nat → Int32) → (Nat → Nat → Int32) → Int32 → Option ((Nat → Nat → Int32) × (Nat → Int32) × (Nat → Int32))} (hrec0 : ∀ (l : Launch) (G : Gp) (h0 : Nat) (a0 : Nat → Nat) (h1 : Nat) (a1 : Nat → Nat) (f0 : Nat → Int32) (A0 : Nat → Nat → Int32) (f1 : Nat → Int32) (A1 : Nat → Nat → Int32) (p2 : Int32), ∀ {r : (Nat → Nat → Int32) × (Nat → Int32) × (Nat → Int32)}, rec 0 f0 A0 f1 A1 p2 = some r → CtrV l yX2_anyOf cX2_anyOf 5 none (rmGX2_anyOf d) G [.ref h0, .ref h1, .int p2] (wX2 G h0 a0 f0 A0 ++ (wX7 G h1 a1 f1 A1)) (wX2 G h0 a0 r.2.1 r.1 ++ (wX7 G h1 a1 r.2.2 A1))) (hrec1 : ∀ (l : Launch) (G : Gp) (h0 : Nat) (a0 : Nat → Nat) (h1 : Nat) (a1 : Nat → Nat) (f0 : Nat → Int32) (A0 : Nat → Nat → Int32) (f1 : Nat → Int32) (A1 : Nat → Nat → Int32) (p2 : Int32), ∀ {r : (Nat → Nat → Int32) × (Nat → Int32) × (Nat → Int32)}, rec 1 f0 A0 f1 A1 p2 = some r → CtrV l yX2_allOf cX2_allOf 5 none (rmGX2_anyOf d) G [.ref h0, .ref h1, .int p2] (wX2 G h0 a0 f0 A0 ++ (wX7 G h1 a1 f1 A1)) (wX2 G h0 a0 r.2.1 r.1 ++ (wX7 G h1 a1 r.2.2 A1))) (hrec2 : ∀ (l : Launch) (G : Gp) (h0 : Nat) (a0 : Nat → Nat) (h1 : Nat) (a1 : Nat → Nat) (f0 : Nat → Int32) (A0 : Nat → Nat → Int32) (f1 : Nat → Int32) (A1 : Nat → Nat → Int32) (p2 : Int32), ∀ {r : (Nat → Nat → Int32) × (Nat → Int32) × (Nat → Int32)}, rec 2 f0 A0 f1 A1 p2 = some r → CtrV l yX2_test cX2_test 5 none (rmGX2_anyOf d) G [.ref h0, .ref h1, .int p2] (wX2 G h0 a0 f0 A0 ++ (wX7 G h1 a1 f1 A1)) (wX2 G h0 a0 r.2.1 r.1 ++ (wX7 G h1 a1 r.2.2 A1))) (hrec3 : ∀ (l : Launch) (G : Gp) (h0 : Nat) (a0 : Nat → Nat) (h1 : Nat) (a1 : Nat → Nat) (f0 : Nat → Int32) (A0 : Nat → Nat → Int32) (f1 : Nat → Int32) (A1 : Nat → Nat → Int32) (p2 : Int32), ∀ {r : (Nat → Nat → Int32) × (Nat → Int32) × (Nat → Int32)}, rec 3 f0 A0 f1 A1 p2 = some r → CtrV l yX2_sum cX2_sum 5 none (rmGX2_anyOf d) G [.ref h0, .ref h1, .int p2] (wX2 G h0 a0 f0 A0 ++ (wX7 G h1 a1 f1 A1)) (wX2 G h0 a0 r.2.1 r.1 ++ (wX7 G h1 a1 r.2.2 A1))) (hrec4 : ∀ (l : Launch) (G : Gp) (h0 : Nat) (a0 : Nat → Nat) (h1 : Nat) (a1 : Nat → Nat) (f0 : Nat → Int32) (A0 : Nat → Nat → Int32) (f1 : Nat → Int32) (A1 : Nat → Nat → Int32) (p2 : Int32), ∀ {r : (Nat → Nat → Int32) × (Nat → Int32) × (Nat → Int32)}, rec 4 f0 A0 f1 A1 p2 = some r → CtrV l yX2_term cX2_term 5 none (rmGX2_anyOf d) G [.ref h0, .ref h1, .int p2] (wX2 G h0 a0 f0 A0 ++ (wX7 G h1 a1 f1 A1)) (wX2 G h0 a0 r.2.1 r.1 ++ (wX7 G h1 a1 r.2.2 A1))) (hrec5 : ∀ (l : Launch) (G : Gp) (h0 : Nat) (a0 : Nat → Nat) (h1 : Nat) (a1 : Nat → Nat) (f0 : Nat → Int32) (A0 : Nat → Nat → Int32) (f1 : Nat → Int32) (A1 : Nat → Nat → Int32) (p2 : Int32), ∀ {r : (Nat → Nat → Int32) × (Nat → Int32) × (Nat → Int32)}, rec 5 f0 A0 f1 A1 p2 = some r → CtrV l yX2_factor cX2_factor 4 none (rmGX2_anyOf d) G [.ref h0, .ref h1, .int p2] (wX2 G h0 a0 f0 A0 ++ (wX7 G h1 a1 f1 A1)) (wX2 G h0 a0 r.2.1 r.1 ++ (wX7 G h1 a1 r.2.2 A1))) (hdd : True) (l : Launch) (G : Gp) (h0 : Nat) (a0 : Nat → Nat) (h1 : Nat) (a1 : Nat → Nat) (f0 : Nat → Int32) (A0 : Nat → Nat → Int32) (f1 : Nat → Int32) (A1 : Nat → Nat → Int32) (p2 : Int32) : ∀ {r : (Nat → Nat → Int32) × (Nat → Int32) × (Nat → Int32)}, f2_sum rec f0 A0 f1 A1 p2 = some r → CtrV l yX2_sum cX2_sum 5 none (rmGX2_anyOf (d + 1)) G [.ref h0, .ref h1, .int p2] (wX2 G h0 a0 f0 A0 ++ (wX7 G h1 a1 f1 A1)) (wX2 G h0 a0 r.2.1 r.1 ++ (wX7 G h1 a1 r.2.2 A1)) := by
  intro res h
  refine ctrV_of (cc := cX2_sum) (maxL := 5) (ret := none) (by decide +kernel) rfl (Nat.le_of_ble_eq_true rfl) (fun p e s m below meth c DA C0 hP hD ls hl => ?_)
  have hPD : WD G DA (wX2 G h0 a0 f0 A0 ++ (wX7 G h1 a1 f1 A1)) s.heap := ⟨hP, hD⟩
  have hS : va_S DA s.heap s.heap [] := va_S.rf
  have hl : lv_has ls 5 [(0, .ref h0), (1, .ref h1), (2, .int p2)] := hl
  obtain ⟨hx, hb, hml, hown, hts⟩ := C0.1
  have hK := C0.2.2.2.1
  unfold f2_sum at h
  refine lv_aload_n hx hb dX2_sum_0 rfl (lv_at hl 0 rfl) ?_
  refine lv_aload_n hx hb dX2_sum_1 rfl (lv_at hl 1 rfl) ?_
  refine lv_iload_n hx hb dX2_sum_2 rfl (lv_at hl 2 rfl) ?_
  obtain ⟨q_1, hq_1, h⟩ := ob2 h
  refine kVV (As := [.ref h1, .int p2]) (rest := []) C0 (hrec4 l G h0 a0 h1 a1 f0 A0 f1 A1 p2 hq_1) gi_V_X2_100_X2_term (n := 2) rfl (by decide +kernel) rfl ⟨rfl, rfl, by simp only [rmGX2_anyOf]; omega, by simp only [rmGX2_anyOf]; omega⟩ hPD hS 0 2 rfl rfl rfl [0, 1, 2, 3, 4, 5, 6, 7, 8, 9] [] [0, 1, 2, 3, 4, 5, 6, 7, 8, 9] (wN := (wX2 G h0 a0 q_1.2.1 q_1.1 ++ (wX7 G h1 a1 q_1.2.2 A1))) rfl rfl rfl rfl rfl hl.1 (Nat.le_of_ble_eq_true rfl) dX2_sum_3 (fun H locs hPD hS => ?_)
  refine lv_iconst (v := 0) hx hb dX2_sum_6 (by decide) ?_
  refine lv_istore_n (lv' := [(3, .int 0), (0, .ref h0), (1, .ref h1), (2, .int p2)]) hx hb dX2_sum_7 rfl hl (by decide) rfl (fun ls hl => ?_)
  exact ww_f2_sum_l8 hrec0 hrec1 hrec2 hrec3 hrec4 hrec5 hdd C0 NF q_1.1 q_1.2.1 q_1.2.2 0 h _ _ _ hPD hS (lv_sub hl [1, 2, 3, 0] rfl)
end WALK
