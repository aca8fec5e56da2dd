section WALK
variable {p : Program} {l : Launch} {e : Env} {s : State} {m : MethodId} {args : Array Value} {below : List Frame} {meth : Method} {c : Code} {G : Gp} {DA : Nat → Prop}
set_option maxRecDepth 100000 in
set_option maxHeartbeats 4000000 in
theorem ko_X1_leastPosts {d : Nat} {rec : (Nat → Int32) → (Nat → Nat → Int32) → Int32 → Int32 → Int32 → Option (Int32)} (hrec0 : ∀ (l : Launch) (G : Gp) (h0 : Nat) (a0 : Nat → Nat) (f0 : Nat → Int32) (A0 : Nat → Nat → Int32) (p1 : Int32) (p2 : Int32) (p3 : Int32), ∀ {r : Int32}, rec f0 A0 p1 p2 p3 = some r → CtrI l yX1_leastPosts cX1_leastPosts 8 (some .int) (rmGX1_leastPosts d) G [.ref h0, .int p1, .int p2, .int p3] (wX1 G h0 a0 f0 A0) r (wX1 G h0 a0 f0 A0)) (hdd : True) (l : Launch) (G : Gp) (h0 : Nat) (a0 : Nat → Nat) (f0 : Nat → Int32) (A0 : Nat → Nat → Int32) (p1 : Int32) (p2 : Int32) (p3 : Int32) : ∀ {r : Int32}, f1_leastPosts rec f0 A0 p1 p2 p3 = some r → CtrI l yX1_leastPosts cX1_leastPosts 8 (some .int) (rmGX1_leastPosts (d + 1)) G [.ref h0, .int p1, .int p2, .int p3] (wX1 G h0 a0 f0 A0) r (wX1 G h0 a0 f0 A0) := by
  intro res h
  refine ctrI_of (cc := cX1_leastPosts) (maxL := 8) (ret := (some .int)) (by decide +kernel) rfl (Nat.le_of_ble_eq_true rfl) (fun p e s m below meth c DA C0 hP hD ls hl => ?_)
  have hPD : WD G DA (wX1 G h0 a0 f0 A0) s.heap := ⟨hP, hD⟩
  have hS : va_S DA s.heap s.heap [] := va_S.rf
  have hl : lv_has ls 8 [(0, .ref h0), (1, .int p1), (2, .int p2), (3, .int p3)] := hl
  obtain ⟨hx, hb, hml, hown, hts⟩ := C0.1
  have hK := C0.2.2.2.1
  unfold f1_leastPosts at h
  refine lv_iload_n hx hb dX1_leastPosts_0 rfl (lv_at hl 2 rfl) ?_
  refine lv_if_ne (tgt := 6) hx hb dX1_leastPosts_1 (by decide) (fun cc1 => ?_) (fun cc1 => ?_)
  · have h := (if_neg cc1).symm.trans h
    refine lv_iload_n hx hb dX1_leastPosts_6 rfl (lv_at hl 3 rfl) ?_
    refine lv_if_gt (tgt := 12) hx hb dX1_leastPosts_7 (by decide) (fun cc1 => ?_) (fun cc1 => ?_)
    · have h := (if_pos cc1).symm.trans h
      refine lv_aload_n hx hb dX1_leastPosts_12 rfl (lv_at hl 0 rfl) ?_
      refine lv_iload_n hx hb dX1_leastPosts_13 rfl (lv_at hl 2 rfl) ?_
      obtain ⟨q_1, hq_1, h⟩ := ob2 h
      refine kNI (As := [.int p2]) (rest := [.ref h0]) C0 (kt_X9_lowestOf l G  p2 hq_1) gi_U_X9_lowestOf (host := "IdleCrimes") (index := 81) (List.mem_of_getElem? (i := 33) rfl) gw_6 gw_124 (n := 1) rfl (by decide +kernel) ⟨rfl, rfl, by simp only [rmGX1_leastPosts, rmX9_lowestOf]; omega, by simp only [rmGX1_leastPosts, rmX9_lowestOf]; omega⟩ hPD hS [] [0, 1, 2, 3] [0, 1, 2, 3] (wr := (wX1 G h0 a0 f0 A0)) (wN := (wX1 G h0 a0 f0 A0)) rfl rfl rfl rfl rfl hl.1 (Nat.le_of_ble_eq_true rfl) dX1_leastPosts_14 (fun H locs hPD hS => ?_)
      refine kVI (As := [.int q_1]) (rest := []) C0 (kt_X1_around l G h0 a0 f0 A0 q_1) gi_V_X1_41_X1_around (n := 1) rfl (by decide +kernel) rfl ⟨rfl, rfl, by simp only [rmGX1_leastPosts, rmX1_around]; omega, by simp only [rmGX1_leastPosts, rmX1_around]; omega⟩ hPD hS 0 1 rfl rfl rfl [0, 1, 2, 3] [] [0, 1, 2, 3] (wr := ([] : va_W)) (wN := (wX1 G h0 a0 f0 A0)) rfl rfl rfl rfl rfl hl.1 (Nat.le_of_ble_eq_true rfl) dX1_leastPosts_17 (fun H locs hPD hS => ?_)
      refine lv_istore (lv' := [(4, .int (f1_around f0 A0 q_1)), (0, .ref h0), (1, .int p1), (2, .int p2), (3, .int p3)]) hx hb dX1_leastPosts_20 hl (by decide) rfl (fun ls hl => ?_)
      refine lv_iconst (v := (-1)) hx hb dX1_leastPosts_22 (by decide) ?_
      refine lv_istore (lv' := [(5, .int (-1)), (4, .int (f1_around f0 A0 q_1)), (0, .ref h0), (1, .int p1), (2, .int p2), (3, .int p3)]) hx hb dX1_leastPosts_23 hl (by decide) rfl (fun ls hl => ?_)
      refine lv_iconst (v := 0) hx hb dX1_leastPosts_25 (by decide) ?_
      refine lv_istore (lv' := [(6, .int 0), (5, .int (-1)), (4, .int (f1_around f0 A0 q_1)), (0, .ref h0), (1, .int p1), (2, .int p2), (3, .int p3)]) hx hb dX1_leastPosts_26 hl (by decide) rfl (fun ls hl => ?_)
      exact ww_f1_leastPosts_l28 hrec0 hdd C0 NF (f1_around f0 A0 q_1) (-1) 0 h _ _ _ hPD hS (lv_sub hl [3, 4, 5, 6, 2, 1, 0] rfl)
    · have h := (if_neg cc1).symm.trans h
      refine lv_iconst (v := (-1)) hx hb dX1_leastPosts_10 (by decide) ?_
      obtain rfl := Option.some.inj h
      exact eI C0 hPD.1 hPD.2 hS rfl dX1_leastPosts_11
  · have h := (if_pos cc1).symm.trans h
    refine lv_iload_n hx hb dX1_leastPosts_4 rfl (lv_at hl 1 rfl) ?_
    obtain rfl := Option.some.inj h
    exact eI C0 hPD.1 hPD.2 hS rfl dX1_leastPosts_5
set_option maxRecDepth 100000 in
set_option maxHeartbeats 4000000 in
theorem kg_X1_leastPosts : ∀ d : Nat, (∀ (l : Launch) (G : Gp) (h0 : Nat) (a0 : Nat → Nat) (f0 : Nat → Int32) (A0 : Nat → Nat → Int32) (p1 : Int32) (p2 : Int32) (p3 : Int32), ∀ {r : Int32}, f1_leastPosts_rec d f0 A0 p1 p2 p3 = some r → CtrI l yX1_leastPosts cX1_leastPosts 8 (some .int) (rmGX1_leastPosts d) G [.ref h0, .int p1, .int p2, .int p3] (wX1 G h0 a0 f0 A0) r (wX1 G h0 a0 f0 A0)) := by
  intro d
  induction d with
  | zero => intro l G _ _ _ _ _ _ _ r h; cases h
  | succ d ih =>
    exact fun l G v0 v1 v2 v3 v4 v5 v6 r h => ko_X1_leastPosts ih trivial l G v0 v1 v2 v3 v4 v5 v6 h
theorem kt_X1_leastPosts (d : Nat) : ∀ (l : Launch) (G : Gp) (h0 : Nat) (a0 : Nat → Nat) (f0 : Nat → Int32) (A0 : Nat → Nat → Int32) (p1 : Int32) (p2 : Int32) (p3 : Int32), ∀ {r : Int32}, f1_leastPosts_rec d f0 A0 p1 p2 p3 = some r → CtrI l yX1_leastPosts cX1_leastPosts 8 (some .int) (rmGX1_leastPosts d) G [.ref h0, .int p1, .int p2, .int p3] (wX1 G h0 a0 f0 A0) r (wX1 G h0 a0 f0 A0) := (kg_X1_leastPosts d)
abbrev rmX1_fewestPosts : Room := { frames := 68, cells := 0, slots := 0, locals := 1819 }
set_option maxRecDepth 100000 in
set_option maxHeartbeats 4000000 in
theorem ww_f1_fewestPosts_b4  (C0 : Cx cX1_fewestPosts 3 (some .int) RX1 p s m args meth c G DA) {h0 : Nat} {a0 : Nat → Nat} {f0 : Nat → Int32} {A0 : Nat → Nat → Int32}  {k4 : Int32 → Int32 → Option (Int32)} {res : Int32}  (hk4 : ∀ (l1 : Int32) (l2 : Int32), k4 l1 l2 = some res → ∀ (H : Heap) (locs : List Loc) (ls : Array Slot), WD G DA (wX1 G h0 a0 f0 A0) H → va_S DA s.heap H locs → lv_has ls 3 [(0, .ref h0), (1, .int l1), (2, .int l2)] → W p l e rmX1_fewestPosts s m args below meth c H locs 0 0 (MQ below (QI G DA res (wX1 G h0 a0 f0 A0)) args s 0 0 DA) (F0 m 4 ls [])) : ∀ (l1 : Int32) (l2 : Int32), f1_fewestPosts_b4 f0 A0  k4 l1 l2 = some res → ∀ (H : Heap) (locs : List Loc) (ls : Array Slot), WD G DA (wX1 G h0 a0 f0 A0) H → va_S DA s.heap H locs → lv_has ls 3 [(0, .ref h0), (1, .int l1), (2, .int l2)] → W p l e rmX1_fewestPosts s m args below meth c H locs 0 0 (MQ below (QI G DA res (wX1 G h0 a0 f0 A0)) args s 0 0 DA) (F0 m 4 ls []) := by
  obtain ⟨hx, hb, hml, hown, hts⟩ := C0.1
  have hK := C0.2.2.2.1
  intro l1 l2 h _ _ _ hPD hS hl
  unfold f1_fewestPosts_b4 at h
  refine lv_iload_n hx hb dX1_fewestPosts_4 rfl (lv_at hl 2 rfl) ?_
  refine lv_bipush (v := 16) hx hb dX1_fewestPosts_5 (by decide) ?_
  refine lv_icmp_gt (tgt := 32) hx hb dX1_fewestPosts_7 (by decide) (fun cc1 => ?_) (fun cc1 => ?_)
  · have h := (if_pos cc1).symm.trans h
    refine lv_iload_n hx hb dX1_fewestPosts_32 rfl (lv_at hl 1 rfl) ?_
    obtain rfl := Option.some.inj h
    exact eI C0 hPD.1 hPD.2 hS rfl dX1_fewestPosts_33
  · have h := (if_neg cc1).symm.trans h
    refine lv_iload_n hx hb dX1_fewestPosts_10 rfl (lv_at hl 1 rfl) ?_
    refine lv_iconst (v := (-1)) hx hb dX1_fewestPosts_11 (by decide) ?_
    refine lv_icmp_ne (tgt := 32) hx hb dX1_fewestPosts_12 (by decide) (fun cc1 => ?_) (fun cc1 => ?_)
    · have h := (if_neg cc1).symm.trans h
      refine lv_iload_n hx hb dX1_fewestPosts_32 rfl (lv_at hl 1 rfl) ?_
      obtain rfl := Option.some.inj h
      exact eI C0 hPD.1 hPD.2 hS rfl dX1_fewestPosts_33
    · have h := (if_pos cc1).symm.trans h
      refine lv_aload_n hx hb dX1_fewestPosts_15 rfl (lv_at hl 0 rfl) ?_
      refine lv_iconst (v := 0) hx hb dX1_fewestPosts_16 (by decide) ?_
      refine lv_aload_n hx hb dX1_fewestPosts_17 rfl (lv_at hl 0 rfl) ?_
      refine va_get (D := G.1) (ci := 1) (v := .int (f0 0)) (C := RX1) (T := TX1) (N := 4) hx hb hts inlX1 hown hK hPD.1 0 rfl rfl 0 (by decide) (hts _ gw_73) (fun _ h9 => h9) rfl dX1_fewestPosts_18 ?_
      refine lv_iload_n hx hb dX1_fewestPosts_21 rfl (lv_at hl 2 rfl) ?_
      obtain ⟨q_1, hq_1, h⟩ := ob2 h
      refine kSI (As := [.ref h0, .int 0, .int (f0 0), .int l2]) (rest := []) C0 (kt_X1_leastPosts 64 l G h0 a0 f0 A0 0 (f0 0) l2 hq_1) gi_S_X1_77_X1_leastPosts (n := 4) rfl (by decide +kernel) ⟨rfl, rfl, Nat.le_of_ble_eq_true rfl, Nat.le_of_ble_eq_true rfl⟩ hPD hS [0, 1, 2, 3] [] [0, 1, 2, 3] (wr := ([] : va_W)) (wN := (wX1 G h0 a0 f0 A0)) rfl rfl rfl rfl rfl hl.1 (Nat.le_of_ble_eq_true rfl) dX1_fewestPosts_22 (fun H locs hPD hS => ?_)
      refine lv_istore_n (lv' := [(1, .int q_1), (0, .ref h0), (2, .int l2)]) hx hb dX1_fewestPosts_25 rfl hl (by decide) rfl (fun ls hl => ?_)
      refine lv_iinc (v := l2 + 1) (lv' := [(2, .int (l2 + 1)), (1, .int q_1), (0, .ref h0)]) hx hb dX1_fewestPosts_26 hl (k := 2) rfl rfl (by decide) rfl (fun ls hl => ?_)
      refine lv_goto (tgt := 4) hx hb dX1_fewestPosts_29 (by decide) ?_
      exact hk4 q_1 (l2 + 1) h _ _ _ hPD hS (lv_sub hl [2, 1, 0] rfl)
set_option maxRecDepth 100000 in
set_option maxHeartbeats 4000000 in
theorem ww_f1_fewestPosts_l4  (C0 : Cx cX1_fewestPosts 3 (some .int) RX1 p s m args meth c G DA) {h0 : Nat} {a0 : Nat → Nat} {f0 : Nat → Int32} {A0 : Nat → Nat → Int32}   {res : Int32}  : ∀ (n : Nat) (l1 : Int32) (l2 : Int32), f1_fewestPosts_l4 f0 A0  n l1 l2 = some res → ∀ (H : Heap) (locs : List Loc) (ls : Array Slot), WD G DA (wX1 G h0 a0 f0 A0) H → va_S DA s.heap H locs → lv_has ls 3 [(0, .ref h0), (1, .int l1), (2, .int l2)] → W p l e rmX1_fewestPosts s m args below meth c H locs 0 0 (MQ below (QI G DA res (wX1 G h0 a0 f0 A0)) args s 0 0 DA) (F0 m 4 ls []) := by
  intro n
  induction n with
  | zero => intro l1 l2 h; cases h
  | succ n ih => intro l1 l2 h; exact ww_f1_fewestPosts_b4 C0  ih l1 l2 h
set_option maxRecDepth 100000 in
set_option maxHeartbeats 4000000 in
theorem kt_X1_fewestPosts (l : Launch) (G : Gp) (h0 : Nat) (a0 : Nat → Nat) (f0 : Nat → Int32) (A0 : Nat → Nat → Int32) : ∀ {r : Int32}, f1_fewestPosts f0 A0 = some r → CtrI l yX1_fewestPosts cX1_fewestPosts 3 (some .int) rmX1_fewestPosts G [.ref h0] (wX1 G h0 a0 f0 A0) r (wX1 G h0 a0 f0 A0) := by
  intro res h
  refine ctrI_of (cc := cX1_fewestPosts) (maxL := 3) (ret := (some .int)) (by decide +kernel) rfl (Nat.le_of_ble_eq_true rfl) (fun p e s m below meth c DA C0 hP hD ls hl => ?_)
  have hPD : WD G DA (wX1 G h0 a0 f0 A0) s.heap := ⟨hP, hD⟩
  have hS : va_S DA s.heap s.heap [] := va_S.rf
  have hl : lv_has ls 3 [(0, .ref h0)] := hl
  obtain ⟨hx, hb, hml, hown, hts⟩ := C0.1
  have hK := C0.2.2.2.1
  unfold f1_fewestPosts at h
  refine lv_iconst (v := (-1)) hx hb dX1_fewestPosts_0 (by decide) ?_
  refine lv_istore_n (lv' := [(1, .int (-1)), (0, .ref h0)]) hx hb dX1_fewestPosts_1 rfl hl (by decide) rfl (fun ls hl => ?_)
  refine lv_iconst (v := 0) hx hb dX1_fewestPosts_2 (by decide) ?_
  refine lv_istore_n (lv' := [(2, .int 0), (1, .int (-1)), (0, .ref h0)]) hx hb dX1_fewestPosts_3 rfl hl (by decide) rfl (fun ls hl => ?_)
  exact ww_f1_fewestPosts_l4 C0 NF (-1) 0 h _ _ _ hPD hS (lv_sub hl [2, 1, 0] rfl)
abbrev rmX2_order : Room := { frames := 1, cells := 0, slots := 0, locals := 22 }
set_option maxRecDepth 100000 in
set_option maxHeartbeats 4000000 in
theorem kt_X2_order (l : Launch) (G : Gp) (h0 : Nat) (a0 : Nat → Nat) (f0 : Nat → Int32) (A0 : Nat → Nat → Int32) (p1 : Int32) (p2 : Int32) : ∀ {r : Int32 × (Nat → Nat → Int32) × (Nat → Int32)}, f2_order f0 A0 p1 p2 = some r → CtrI l yX2_order cX2_order 3 (some .int) rmX2_order G [.ref h0, .int p1, .int p2] (wX2 G h0 a0 f0 A0) r.1 (wX2 G h0 a0 r.2.2 r.2.1) := by
  intro res h
  refine ctrI_of (cc := cX2_order) (maxL := 3) (ret := (some .int)) (by decide +kernel) rfl (Nat.le_of_ble_eq_true rfl) (fun p e s m below meth c DA C0 hP hD ls hl => ?_)
  have hPD : WD G DA (wX2 G h0 a0 f0 A0) s.heap := ⟨hP, hD⟩
  have hS : va_S DA s.heap s.heap [] := va_S.rf
  have hl : lv_has ls 3 [(0, .ref h0), (1, .int p1), (2, .int p2)] := hl
  obtain ⟨hx, hb, hml, hown, hts⟩ := C0.1
  have hK := C0.2.2.2.1
  unfold f2_order at h
  refine lv_aload_n hx hb dX2_order_0 rfl (lv_at hl 0 rfl) ?_
  refine va_get (D := G.1) (ci := 2) (v := .ref (a0 0)) (C := RX2) (T := TX2) (N := 10) hx hb hts inlX2 hown hK hPD.1 0 rfl rfl 0 (by decide) (hts _ gw_129) (fun _ h9 => h9) rfl dX2_order_1 ?_
  refine lv_aload_n hx hb dX2_order_4 rfl (lv_at hl 0 rfl) ?_
  refine va_get (D := G.1) (ci := 2) (v := .int (f0 7)) (C := RX2) (T := TX2) (N := 10) hx hb hts inlX2 hown hK hPD.1 0 rfl rfl 7 (by decide) (hts _ gw_130) (fun _ h9 => h9) rfl dX2_order_5 ?_
  refine lv_iload_n hx hb dX2_order_8 rfl (lv_at hl 1 rfl) ?_
  obtain ⟨z_1, ez_1, h⟩ := lvl h
  have kc := kt_X9_put l G (a0 0) 240 (A0 0) (f0 7) p1 (by decide)
  rw [← ez_1] at kc
  clear ez_1
  refine kNV (As := [.ref (a0 0), .int (f0 7), .int p1]) (rest := []) C0 (kc) gi_U_X9_put (host := "IdleCrimes") (index := 65) (List.mem_of_getElem? (i := 12) rfl) gw_6 gw_19 (n := 3) rfl (by decide +kernel) ⟨rfl, rfl, Nat.le_of_ble_eq_true rfl, Nat.le_of_ble_eq_true rfl⟩ hPD hS [1] [0, 2, 3, 4, 5, 6, 7] [0, 7, 1, 2, 3, 4, 5, 6] (wr := pick (wX2 G h0 a0 f0 A0) [0, 2, 3, 4, 5, 6, 7]) (wN := (wX2 G h0 a0 f0 (updA A0 0 z_1))) rfl rfl rfl rfl rfl hl.1 (Nat.le_of_ble_eq_true rfl) dX2_order_9 (fun H locs hPD hS => ?_)
  obtain ⟨A0_2, eA0_2, h⟩ := lvl h
  have hPD : WD G DA (wX2 G h0 a0 f0 A0_2) H := by rw [eA0_2]; exact hPD
  clear eA0_2
  refine lv_aload_n hx hb dX2_order_12 rfl (lv_at hl 0 rfl) ?_
  refine va_get (D := G.1) (ci := 2) (v := .ref (a0 1)) (C := RX2) (T := TX2) (N := 10) hx hb hts inlX2 hown hK hPD.1 0 rfl rfl 1 (by decide) (hts _ gw_131) (fun _ h9 => h9) rfl dX2_order_13 ?_
  refine lv_aload_n hx hb dX2_order_16 rfl (lv_at hl 0 rfl) ?_
  refine va_get (D := G.1) (ci := 2) (v := .int (f0 7)) (C := RX2) (T := TX2) (N := 10) hx hb hts inlX2 hown hK hPD.1 0 rfl rfl 7 (by decide) (hts _ gw_130) (fun _ h9 => h9) rfl dX2_order_17 ?_
  refine lv_iload_n hx hb dX2_order_20 rfl (lv_at hl 2 rfl) ?_
  obtain ⟨z_3, ez_3, h⟩ := lvl h
  have kc := kt_X9_put l G (a0 1) 240 (A0_2 1) (f0 7) p2 (by decide)
  rw [← ez_3] at kc
  clear ez_3
  refine kNV (As := [.ref (a0 1), .int (f0 7), .int p2]) (rest := []) C0 (kc) gi_U_X9_put (host := "IdleCrimes") (index := 65) (List.mem_of_getElem? (i := 12) rfl) gw_6 gw_19 (n := 3) rfl (by decide +kernel) ⟨rfl, rfl, Nat.le_of_ble_eq_true rfl, Nat.le_of_ble_eq_true rfl⟩ hPD hS [2] [0, 1, 3, 4, 5, 6, 7] [0, 1, 7, 2, 3, 4, 5, 6] (wr := pick (wX2 G h0 a0 f0 A0_2) [0, 1, 3, 4, 5, 6, 7]) (wN := (wX2 G h0 a0 f0 (updA A0_2 1 z_3))) rfl rfl rfl rfl rfl hl.1 (Nat.le_of_ble_eq_true rfl) dX2_order_21 (fun H locs hPD hS => ?_)
  obtain ⟨A0_4, eA0_4, h⟩ := lvl h
  have hPD : WD G DA (wX2 G h0 a0 f0 A0_4) H := by rw [eA0_4]; exact hPD
  clear eA0_4
  refine lv_aload_n hx hb dX2_order_24 rfl (lv_at hl 0 rfl) ?_
  refine lv_dup hx hb dX2_order_25 rfl ?_
  refine va_get (D := G.1) (ci := 2) (v := .int (f0 7)) (C := RX2) (T := TX2) (N := 10) hx hb hts inlX2 hown hK hPD.1 0 rfl rfl 7 (by decide) (hts _ gw_130) (fun _ h9 => h9) rfl dX2_order_26 ?_
  refine lv_iconst (v := 1) hx hb dX2_order_29 (by decide) ?_
  refine lv_iadd hx hb dX2_order_30 ?_
  refine va_put (D := G.1) (ci := 2) (v := .int ((f0 7) + 1)) (ty := .int) (C := RX2) (T := TX2) (N := 10) hx hb hts inlX2 tyX2 tyX2_ok nmX2 hown hK hPD.1 hPD.2 hS 0 rfl rfl 7 (by decide) (hts _ gw_130) (fun _ h9 => h9) rfl (by decide +kernel) rfl rfl (Nat.le_of_ble_eq_true rfl) dX2_order_31 (fun H locs hP hD hS => ?_)
  obtain ⟨f0_5, ef0_5, h⟩ := lvl h
  have hPD : WD G DA (wX2 G h0 a0 f0_5 A0_4) H := by rw [ef0_5]; exact ⟨hP, hD⟩
  clear ef0_5 hP hD
  refine lv_aload_n hx hb dX2_order_34 rfl (lv_at hl 0 rfl) ?_
  refine va_get (D := G.1) (ci := 2) (v := .int (f0_5 7)) (C := RX2) (T := TX2) (N := 10) hx hb hts inlX2 hown hK hPD.1 0 rfl rfl 7 (by decide) (hts _ gw_130) (fun _ h9 => h9) rfl dX2_order_35 ?_
  refine lv_iconst (v := 1) hx hb dX2_order_38 (by decide) ?_
  refine lv_isub hx hb dX2_order_39 ?_
  obtain rfl := Option.some.inj h
  exact eI C0 hPD.1 hPD.2 hS rfl dX2_order_40
abbrev rmX2_opens : Room := { frames := 2, cells := 0, slots := 0, locals := 43 }
set_option maxRecDepth 100000 in
set_option maxHeartbeats 4000000 in
theorem kt_X2_opens (l : Launch) (G : Gp) (h0 : Nat) (a0 : Nat → Nat) (f0 : Nat → Int32) (A0 : Nat → Nat → Int32) (p1 : Int32) : ∀ {r : Int32 × (Nat → Int32)}, f2_opens f0 A0 p1 = some r → CtrI l yX2_opens cX2_opens 2 (some .boolean) rmX2_opens G [.ref h0, .int p1] (wX7 G h0 a0 f0 A0) r.1 (wX7 G h0 a0 r.2 A0) := by
  intro res h
  refine ctrI_of (cc := cX2_opens) (maxL := 2) (ret := (some .boolean)) (by decide +kernel) rfl (Nat.le_of_ble_eq_true rfl) (fun p e s m below meth c DA C0 hP hD ls hl => ?_)
  have hPD : WD G DA (wX7 G h0 a0 f0 A0) s.heap := ⟨hP, hD⟩
  have hS : va_S DA s.heap s.heap [] := va_S.rf
  have hl : lv_has ls 2 [(0, .ref h0), (1, .int p1)] := hl
  obtain ⟨hx, hb, hml, hown, hts⟩ := C0.1
  have hK := C0.2.2.2.1
  unfold f2_opens at h
  refine lv_iload_n hx hb dX2_opens_0 rfl (lv_at hl 1 rfl) ?_
  refine lv_bipush (v := 6) hx hb dX2_opens_1 (by decide) ?_
  refine lv_icmp_lt (tgt := 13) hx hb dX2_opens_3 (by decide) (fun cc1 => ?_) (fun cc1 => ?_)
  · have h := (if_pos cc1).symm.trans h
    refine lv_aload_n hx hb dX2_opens_13 rfl (lv_at hl 0 rfl) ?_
    obtain ⟨z_1, ez_1, h⟩ := lvl h
    have kc := kt_X7_step l G h0 a0 f0 A0
    rw [← ez_1] at kc
    clear ez_1
    refine kVV (As := []) (rest := []) C0 (kc) gi_V_X2_62_X7_step (n := 0) rfl (by decide +kernel) rfl ⟨rfl, rfl, Nat.le_of_ble_eq_true rfl, Nat.le_of_ble_eq_true rfl⟩ hPD hS 0 7 rfl rfl rfl [0, 1] [] [0, 1] (wr := ([] : va_W)) (wN := (wX7 G h0 a0 z_1 A0)) rfl rfl rfl rfl rfl hl.1 (Nat.le_of_ble_eq_true rfl) dX2_opens_14 (fun H locs hPD hS => ?_)
    refine lv_iconst (v := 1) hx hb dX2_opens_17 (by decide) ?_
    obtain rfl := Option.some.inj h
    exact eZ C0 hPD.1 hPD.2 hS rfl rfl dX2_opens_18
  · have h := (if_neg cc1).symm.trans h
    refine lv_aload_n hx hb dX2_opens_6 rfl (lv_at hl 0 rfl) ?_
    refine lv_iconst (v := 5) hx hb dX2_opens_7 (by decide) ?_
    obtain ⟨z_2, ez_2, h⟩ := lvl h
    have kc := kt_X7_fail l G h0 a0 f0 A0 5
    rw [← ez_2] at kc
    clear ez_2
    refine kVV (As := [.int 5]) (rest := []) C0 (kc) gi_V_X2_58_X7_fail (n := 1) rfl (by decide +kernel) rfl ⟨rfl, rfl, Nat.le_of_ble_eq_true rfl, Nat.le_of_ble_eq_true rfl⟩ hPD hS 0 7 rfl rfl rfl [0, 1] [] [0, 1] (wr := ([] : va_W)) (wN := (wX7 G h0 a0 z_2 A0)) rfl rfl rfl rfl rfl hl.1 (Nat.le_of_ble_eq_true rfl) dX2_opens_8 (fun H locs hPD hS => ?_)
    refine lv_iconst (v := 0) hx hb dX2_opens_11 (by decide) ?_
    obtain rfl := Option.some.inj h
    exact eZ C0 hPD.1 hPD.2 hS rfl rfl dX2_opens_12
abbrev rmX7_isDigit : Room := { frames := 1, cells := 0, slots := 0, locals := 22 }
set_option maxRecDepth 100000 in
set_option maxHeartbeats 4000000 in
theorem kt_X7_isDigit (l : Launch) (G : Gp) (p0 : Int32) : ∀ {r : Int32}, f7_isDigit p0 = some r → CtrI l yX7_isDigit cX7_isDigit 1 (some .boolean) rmX7_isDigit G [.int p0] ([] : va_W) r ([] : va_W) := by
  intro res h
  refine ctrI_of (cc := cX7_isDigit) (maxL := 1) (ret := (some .boolean)) (by decide +kernel) rfl (Nat.le_of_ble_eq_true rfl) (fun p e s m below meth c DA C0 hP hD ls hl => ?_)
  have hPD : WD G DA ([] : va_W) s.heap := ⟨hP, hD⟩
  have hS : va_S DA s.heap s.heap [] := va_S.rf
  have hl : lv_has ls 1 [(0, .int p0)] := hl
  obtain ⟨hx, hb, hml, hown, hts⟩ := C0.1
  have hK := C0.2.2.2.1
  unfold f7_isDigit at h
  refine lv_iload_n hx hb dX7_isDigit_0 rfl (lv_at hl 0 rfl) ?_
  refine lv_bipush (v := 48) hx hb dX7_isDigit_1 (by decide) ?_
  refine lv_bipush (v := 57) hx hb dX7_isDigit_3 (by decide) ?_
  refine kNI (As := [.int p0, .int 48, .int 57]) (rest := []) C0 (kt_X9_within l G  p0 48 57) gi_U_X9_within (host := "IdleCrimes") (index := 65) (List.mem_of_getElem? (i := 13) rfl) gw_6 gw_25 (n := 3) rfl (by decide +kernel) ⟨rfl, rfl, Nat.le_of_ble_eq_true rfl, Nat.le_of_ble_eq_true rfl⟩ hPD hS [] [] [] (wr := ([] : va_W)) (wN := ([] : va_W)) rfl rfl rfl rfl rfl hl.1 (Nat.le_of_ble_eq_true rfl) dX7_isDigit_5 (fun H locs hPD hS => ?_)
  obtain ⟨hz, h⟩ := ob h
  obtain rfl := Option.some.inj h
  exact eZ C0 hPD.1 hPD.2 hS rfl (nbool (Classical.not_not.mp hz)) dX7_isDigit_8
abbrev rmX7_number : Room := { frames := 2, cells := 0, slots := 0, locals := 43 }
set_option maxRecDepth 100000 in
set_option maxHeartbeats 4000000 in
theorem ww_f7_number_b54  (C0 : Cx cX7_number 4 (some .int) RX7 p s m args meth c G DA) {h0 : Nat} {a0 : Nat → Nat} {A0 : Nat → Nat → Int32} {p1 : Int32}   {res : Int32 × (Nat → Int32)}  : ∀ (f0 : Nat → Int32) (l2 : Int32) (l3 : Int32), f7_number_b54 A0 p1  f0 l2 l3 = some res → ∀ (H : Heap) (locs : List Loc) (ls : Array Slot), WD G DA (wX7 G h0 a0 f0 A0) H → va_S DA s.heap H locs → lv_has ls 4 [(0, .ref h0), (1, .int p1), (2, .int l2), (3, .int l3)] → W p l e rmX7_number s m args below meth c H locs 0 0 (MQ below (QI G DA res.1 (wX7 G h0 a0 res.2 A0)) args s 0 0 DA) (F0 m 54 ls []) := by
  obtain ⟨hx, hb, hml, hown, hts⟩ := C0.1
  have hK := C0.2.2.2.1
  intro f0 l2 l3 h _ _ _ hPD hS hl
  unfold f7_number_b54 at h
  refine lv_iload_n hx hb dX7_number_54 rfl (lv_at hl 3 rfl) ?_
  refine lv_if_ne (tgt := 63) hx hb dX7_number_55 (by decide) (fun cc1 => ?_) (fun cc1 => ?_)
  · have h := (if_neg cc1).symm.trans h
    refine lv_iload_n hx hb dX7_number_63 rfl (lv_at hl 2 rfl) ?_
    obtain rfl := Option.some.inj h
    exact eI C0 hPD.1 hPD.2 hS rfl dX7_number_64
  · have h := (if_pos cc1).symm.trans h
    refine lv_aload_n hx hb dX7_number_58 rfl (lv_at hl 0 rfl) ?_
    refine lv_iconst (v := 1) hx hb dX7_number_59 (by decide) ?_
    obtain ⟨z_1, ez_1, h⟩ := lvl h
    have kc := kt_X7_fail l G h0 a0 f0 A0 1
    rw [← ez_1] at kc
    clear ez_1
    refine kVV (As := [.int 1]) (rest := []) C0 (kc) gi_V_X7_47_X7_fail (n := 1) rfl (by decide +kernel) rfl ⟨rfl, rfl, Nat.le_of_ble_eq_true rfl, Nat.le_of_ble_eq_true rfl⟩ hPD hS 0 7 rfl rfl rfl [0, 1] [] [0, 1] (wr := ([] : va_W)) (wN := (wX7 G h0 a0 z_1 A0)) rfl rfl rfl rfl rfl hl.1 (Nat.le_of_ble_eq_true rfl) dX7_number_60 (fun H locs hPD hS => ?_)
    refine lv_iload_n hx hb dX7_number_63 rfl (lv_at hl 2 rfl) ?_
    obtain rfl := Option.some.inj h
    exact eI C0 hPD.1 hPD.2 hS rfl dX7_number_64
set_option maxRecDepth 100000 in
set_option maxHeartbeats 4000000 in
theorem ww_f7_number_b4  (C0 : Cx cX7_number 4 (some .int) RX7 p s m args meth c G DA) {h0 : Nat} {a0 : Nat → Nat} {A0 : Nat → Nat → Int32} {p1 : Int32}  {k4 : (Nat → Int32) → Int32 → Int32 → Option (Int32 × (Nat → Int32))} {res : Int32 × (Nat → Int32)}  (hk4 : ∀ (f0 : Nat → Int32) (l2 : Int32) (l3 : Int32), k4 f0 l2 l3 = some res → ∀ (H : Heap) (locs : List Loc) (ls : Array Slot), WD G DA (wX7 G h0 a0 f0 A0) H → va_S DA s.heap H locs → lv_has ls 4 [(0, .ref h0), (1, .int p1), (2, .int l2), (3, .int l3)] → W p l e rmX7_number s m args below meth c H locs 0 0 (MQ below (QI G DA res.1 (wX7 G h0 a0 res.2 A0)) args s 0 0 DA) (F0 m 4 ls [])) : ∀ (f0 : Nat → Int32) (l2 : Int32) (l3 : Int32), f7_number_b4 A0 p1  k4 f0 l2 l3 = some res → ∀ (H : Heap) (locs : List Loc) (ls : Array Slot), WD G DA (wX7 G h0 a0 f0 A0) H → va_S DA s.heap H locs → lv_has ls 4 [(0, .ref h0), (1, .int p1), (2, .int l2), (3, .int l3)] → W p l e rmX7_number s m args below meth c H locs 0 0 (MQ below (QI G DA res.1 (wX7 G h0 a0 res.2 A0)) args s 0 0 DA) (F0 m 4 ls []) := by
  obtain ⟨hx, hb, hml, hown, hts⟩ := C0.1
  have hK := C0.2.2.2.1
  intro f0 l2 l3 h _ _ _ hPD hS hl
  unfold f7_number_b4 at h
  refine lv_iload_n hx hb dX7_number_4 rfl (lv_at hl 3 rfl) ?_
  refine lv_iload_n hx hb dX7_number_5 rfl (lv_at hl 1 rfl) ?_
  refine lv_icmp_gt (tgt := 54) hx hb dX7_number_6 (by decide) (fun cc1 => ?_) (fun cc1 => ?_)
  · have h := (if_pos cc1).symm.trans h
    exact ww_f7_number_b54 C0 f0 l2 l3 h _ _ _ hPD hS (lv_sub hl [0, 1, 2, 3] rfl)
  · have h := (if_neg cc1).symm.trans h
    refine lv_aload_n hx hb dX7_number_9 rfl (lv_at hl 0 rfl) ?_
    refine kVI (As := []) (rest := []) C0 (kt_X7_look l G h0 a0 f0 A0) gi_V_X7_43_X7_look (n := 0) rfl (by decide +kernel) rfl ⟨rfl, rfl, Nat.le_of_ble_eq_true rfl, Nat.le_of_ble_eq_true rfl⟩ hPD hS 0 7 rfl rfl rfl [0, 1] [] [0, 1] (wr := ([] : va_W)) (wN := (wX7 G h0 a0 f0 A0)) rfl rfl rfl rfl rfl hl.1 (Nat.le_of_ble_eq_true rfl) dX7_number_10 (fun H locs hPD hS => ?_)
    obtain ⟨q_2, hq_2, h⟩ := ob2 h
    refine kSI (As := [.int (f7_look f0 A0)]) (rest := []) C0 (kt_X7_isDigit l G  (f7_look f0 A0) hq_2) gi_S_X7_54_X7_isDigit (n := 1) rfl (by decide +kernel) ⟨rfl, rfl, Nat.le_of_ble_eq_true rfl, Nat.le_of_ble_eq_true rfl⟩ hPD hS [] [0, 1] [0, 1] (wr := (wX7 G h0 a0 f0 A0)) (wN := (wX7 G h0 a0 f0 A0)) rfl rfl rfl rfl rfl hl.1 (Nat.le_of_ble_eq_true rfl) dX7_number_13 (fun H locs hPD hS => ?_)
    refine lv_if_eq (tgt := 54) hx hb dX7_number_16 (by decide) (fun cc1 => ?_) (fun cc1 => ?_)
    · have h := (if_pos cc1).symm.trans h
      exact ww_f7_number_b54 C0 f0 l2 l3 h _ _ _ hPD hS (lv_sub hl [0, 1, 2, 3] rfl)
    · have h := (if_neg cc1).symm.trans h
      refine lv_iload_n hx hb dX7_number_19 rfl (lv_at hl 3 rfl) ?_
      refine lv_iload_n hx hb dX7_number_20 rfl (lv_at hl 1 rfl) ?_
      refine lv_icmp_ne (tgt := 31) hx hb dX7_number_21 (by decide) (fun cc1 => ?_) (fun cc1 => ?_)
      · have h := (if_neg cc1).symm.trans h
        refine lv_iload_n hx hb dX7_number_31 rfl (lv_at hl 2 rfl) ?_
        refine lv_bipush (v := 10) hx hb dX7_number_32 (by decide) ?_
        refine lv_imul hx hb dX7_number_34 ?_
        refine lv_aload_n hx hb dX7_number_35 rfl (lv_at hl 0 rfl) ?_
        refine kVI (As := []) (rest := [.int (l2 * 10)]) C0 (kt_X7_look l G h0 a0 f0 A0) gi_V_X7_43_X7_look (n := 0) rfl (by decide +kernel) rfl ⟨rfl, rfl, Nat.le_of_ble_eq_true rfl, Nat.le_of_ble_eq_true rfl⟩ hPD hS 0 7 rfl rfl rfl [0, 1] [] [0, 1] (wr := ([] : va_W)) (wN := (wX7 G h0 a0 f0 A0)) rfl rfl rfl rfl rfl hl.1 (Nat.le_of_ble_eq_true rfl) dX7_number_36 (fun H locs hPD hS => ?_)
        refine lv_iadd hx hb dX7_number_39 ?_
        refine lv_bipush (v := 48) hx hb dX7_number_40 (by decide) ?_
        refine lv_isub hx hb dX7_number_42 ?_
        refine lv_istore_n (lv' := [(2, .int (((l2 * 10) + (f7_look f0 A0)) - 48)), (0, .ref h0), (1, .int p1), (3, .int l3)]) hx hb dX7_number_43 rfl hl (by decide) rfl (fun ls hl => ?_)
        refine lv_iinc (v := l3 + 1) (lv' := [(3, .int (l3 + 1)), (2, .int (((l2 * 10) + (f7_look f0 A0)) - 48)), (0, .ref h0), (1, .int p1)]) hx hb dX7_number_44 hl (k := 3) rfl rfl (by decide) rfl (fun ls hl => ?_)
        refine lv_aload_n hx hb dX7_number_47 rfl (lv_at hl 2 rfl) ?_
        obtain ⟨z_3, ez_3, h⟩ := lvl h
        have kc := kt_X7_step l G h0 a0 f0 A0
        rw [← ez_3] at kc
        clear ez_3
        refine kVV (As := []) (rest := []) C0 (kc) gi_V_X7_51_X7_step (n := 0) rfl (by decide +kernel) rfl ⟨rfl, rfl, Nat.le_of_ble_eq_true rfl, Nat.le_of_ble_eq_true rfl⟩ hPD hS 0 7 rfl rfl rfl [0, 1] [] [0, 1] (wr := ([] : va_W)) (wN := (wX7 G h0 a0 z_3 A0)) rfl rfl rfl rfl rfl hl.1 (Nat.le_of_ble_eq_true rfl) dX7_number_48 (fun H locs hPD hS => ?_)
        refine lv_goto (tgt := 4) hx hb dX7_number_51 (by decide) ?_
        exact hk4 z_3 (((l2 * 10) + (f7_look f0 A0)) - 48) (l3 + 1) h _ _ _ hPD hS (lv_sub hl [2, 3, 1, 0] rfl)
      · have h := (if_pos cc1).symm.trans h
        refine lv_aload_n hx hb dX7_number_24 rfl (lv_at hl 0 rfl) ?_
        refine lv_iconst (v := 2) hx hb dX7_number_25 (by decide) ?_
        obtain ⟨z_4, ez_4, h⟩ := lvl h
        have kc := kt_X7_fail l G h0 a0 f0 A0 2
        rw [← ez_4] at kc
        clear ez_4
        refine kVV (As := [.int 2]) (rest := []) C0 (kc) gi_V_X7_47_X7_fail (n := 1) rfl (by decide +kernel) rfl ⟨rfl, rfl, Nat.le_of_ble_eq_true rfl, Nat.le_of_ble_eq_true rfl⟩ hPD hS 0 7 rfl rfl rfl [0, 1] [] [0, 1] (wr := ([] : va_W)) (wN := (wX7 G h0 a0 z_4 A0)) rfl rfl rfl rfl rfl hl.1 (Nat.le_of_ble_eq_true rfl) dX7_number_26 (fun H locs hPD hS => ?_)
        refine lv_iconst (v := 0) hx hb dX7_number_29 (by decide) ?_
        obtain rfl := Option.some.inj h
        exact eI C0 hPD.1 hPD.2 hS rfl dX7_number_30
set_option maxRecDepth 100000 in
set_option maxHeartbeats 4000000 in
theorem ww_f7_number_l4  (C0 : Cx cX7_number 4 (some .int) RX7 p s m args meth c G DA) {h0 : Nat} {a0 : Nat → Nat} {A0 : Nat → Nat → Int32} {p1 : Int32}   {res : Int32 × (Nat → Int32)}  : ∀ (n : Nat) (f0 : Nat → Int32) (l2 : Int32) (l3 : Int32), f7_number_l4 A0 p1  n f0 l2 l3 = some res → ∀ (H : Heap) (locs : List Loc) (ls : Array Slot), WD G DA (wX7 G h0 a0 f0 A0) H → va_S DA s.heap H locs → lv_has ls 4 [(0, .ref h0), (1, .int p1), (2, .int l2), (3, .int l3)] → W p l e rmX7_number s m args below meth c H locs 0 0 (MQ below (QI G DA res.1 (wX7 G h0 a0 res.2 A0)) args s 0 0 DA) (F0 m 4 ls []) := by
  intro n
  induction n with
  | zero => intro f0 l2 l3 h; cases h
  | succ n ih => intro f0 l2 l3 h; exact ww_f7_number_b4 C0  ih f0 l2 l3 h
set_option maxRecDepth 100000 in
set_option maxHeartbeats 4000000 in
theorem kt_X7_number (l : Launch) (G : Gp) (h0 : Nat) (a0 : Nat → Nat) (f0 : Nat → Int32) (A0 : Nat → Nat → Int32) (p1 : Int32) : ∀ {r : Int32 × (Nat → Int32)}, f7_number f0 A0 p1 = some r → CtrI l yX7_number cX7_number 4 (some .int) rmX7_number G [.ref h0, .int p1] (wX7 G h0 a0 f0 A0) r.1 (wX7 G h0 a0 r.2 A0) := by
  intro res h
  refine ctrI_of (cc := cX7_number) (maxL := 4) (ret := (some .int)) (by decide +kernel) rfl (Nat.le_of_ble_eq_true rfl) (fun p e s m below meth c DA C0 hP hD ls hl => ?_)
  have hPD : WD G DA (wX7 G h0 a0 f0 A0) s.heap := ⟨hP, hD⟩
  have hS : va_S DA s.heap s.heap [] := va_S.rf
  have hl : lv_has ls 4 [(0, .ref h0), (1, .int p1)] := hl
  obtain ⟨hx, hb, hml, hown, hts⟩ := C0.1
  have hK := C0.2.2.2.1
  unfold f7_number at h
  refine lv_iconst (v := 0) hx hb dX7_number_0 (by decide) ?_
  refine lv_istore_n (lv' := [(2, .int 0), (0, .ref h0), (1, .int p1)]) hx hb dX7_number_1 rfl hl (by decide) rfl (fun ls hl => ?_)
  refine lv_iconst (v := 0) hx hb dX7_number_2 (by decide) ?_
  refine lv_istore_n (lv' := [(3, .int 0), (2, .int 0), (0, .ref h0), (1, .int p1)]) hx hb dX7_number_3 rfl hl (by decide) rfl (fun ls hl => ?_)
  exact ww_f7_number_l4 C0 NF f0 0 0 h _ _ _ hPD hS (lv_sub hl [2, 3, 1, 0] rfl)
abbrev rmX2_letterOf : Room := { frames := 0, cells := 0, slots := 0, locals := 0 }
set_option maxRecDepth 100000 in
set_option maxHeartbeats 4000000 in
theorem kt_X2_letterOf (l : Launch) (G : Gp) (p0 : Int32) : CtrI l yX2_letterOf cX2_letterOf 1 (some .int) rmX2_letterOf G [.int p0] ([] : va_W) (f2_letterOf p0) ([] : va_W) := by
  obtain ⟨res, h⟩ : ∃ res, f2_letterOf p0 = res := ⟨_, rfl⟩
  rw [h]
  refine ctrI_of (cc := cX2_letterOf) (maxL := 1) (ret := (some .int)) (by decide +kernel) rfl (Nat.le_of_ble_eq_true rfl) (fun p e s m below meth c DA C0 hP hD ls hl => ?_)
  have hPD : WD G DA ([] : va_W) s.heap := ⟨hP, hD⟩
  have hS : va_S DA s.heap s.heap [] := va_S.rf
  have hl : lv_has ls 1 [(0, .int p0)] := hl
  obtain ⟨hx, hb, hml, hown, hts⟩ := C0.1
  have hK := C0.2.2.2.1
  unfold f2_letterOf at h
  refine lv_iload_n hx hb dX2_letterOf_0 rfl (lv_at hl 0 rfl) ?_
  by_cases cc99 : p0 = 99
  · have h := (if_pos cc99).symm.trans h
    refine lv_swT (tgt := 94) (k := 99) hx hb dX2_letterOf_1 cc99 (by decide) (by decide) ?_
    refine lv_iconst (v := 3) hx hb dX2_letterOf_94 (by decide) ?_
    subst h
    exact eI C0 hPD.1 hPD.2 hS rfl dX2_letterOf_95
  have h := (if_neg cc99).symm.trans h
  by_cases cc100 : p0 = 100
  · have h := (if_pos cc100).symm.trans h
    refine lv_swT (tgt := 103) (k := 100) hx hb dX2_letterOf_1 cc100 (by decide) (by decide) ?_
    refine lv_bipush (v := 7) hx hb dX2_letterOf_103 (by decide) ?_
    subst h
    exact eI C0 hPD.1 hPD.2 hS rfl dX2_letterOf_105
  have h := (if_neg cc100).symm.trans h
  by_cases cc103 : p0 = 103
  · have h := (if_pos cc103).symm.trans h
    refine lv_swT (tgt := 92) (k := 103) hx hb dX2_letterOf_1 cc103 (by decide) (by decide) ?_
    refine lv_iconst (v := 2) hx hb dX2_letterOf_92 (by decide) ?_
    subst h
    exact eI C0 hPD.1 hPD.2 hS rfl dX2_letterOf_93
  have h := (if_neg cc103).symm.trans h
  by_cases cc104 : p0 = 104
  · have h := (if_pos cc104).symm.trans h
    refine lv_swT (tgt := 100) (k := 104) hx hb dX2_letterOf_1 cc104 (by decide) (by decide) ?_
    refine lv_bipush (v := 6) hx hb dX2_letterOf_100 (by decide) ?_
    subst h
    exact eI C0 hPD.1 hPD.2 hS rfl dX2_letterOf_102
  have h := (if_neg cc104).symm.trans h
  by_cases cc108 : p0 = 108
  · have h := (if_pos cc108).symm.trans h
    refine lv_swT (tgt := 98) (k := 108) hx hb dX2_letterOf_1 cc108 (by decide) (by decide) ?_
    refine lv_iconst (v := 5) hx hb dX2_letterOf_98 (by decide) ?_
    subst h
    exact eI C0 hPD.1 hPD.2 hS rfl dX2_letterOf_99
  have h := (if_neg cc108).symm.trans h
  by_cases cc110 : p0 = 110
  · have h := (if_pos cc110).symm.trans h
    refine lv_swT (tgt := 96) (k := 110) hx hb dX2_letterOf_1 cc110 (by decide) (by decide) ?_
    refine lv_iconst (v := 4) hx hb dX2_letterOf_96 (by decide) ?_
    subst h
    exact eI C0 hPD.1 hPD.2 hS rfl dX2_letterOf_97
  have h := (if_neg cc110).symm.trans h
  by_cases cc112 : p0 = 112
  · have h := (if_pos cc112).symm.trans h
    refine lv_swT (tgt := 88) (k := 112) hx hb dX2_letterOf_1 cc112 (by decide) (by decide) ?_
    refine lv_iconst (v := 0) hx hb dX2_letterOf_88 (by decide) ?_
    subst h
    exact eI C0 hPD.1 hPD.2 hS rfl dX2_letterOf_89
  have h := (if_neg cc112).symm.trans h
  by_cases cc116 : p0 = 116
  · have h := (if_pos cc116).symm.trans h
    refine lv_swT (tgt := 90) (k := 116) hx hb dX2_letterOf_1 cc116 (by decide) (by decide) ?_
    refine lv_iconst (v := 1) hx hb dX2_letterOf_90 (by decide) ?_
    subst h
    exact eI C0 hPD.1 hPD.2 hS rfl dX2_letterOf_91
  have h := (if_neg cc116).symm.trans h
  refine lv_swTD (tgt := 106) (ks := [99, 100, 103, 104, 108, 110, 112, 116]) hx hb dX2_letterOf_1 (by decide) (by decide) ⟨cc99, cc100, cc103, cc104, cc108, cc110, cc112, cc116, trivial⟩ (by decide) ?_
  refine lv_iconst (v := (-1)) hx hb dX2_letterOf_106 (by decide) ?_
  subst h
  exact eI C0 hPD.1 hPD.2 hS rfl dX2_letterOf_107
abbrev rmGX2_anyOf (d : Nat) : Room := { frames := d + 3, cells := 0, slots := 0, locals := 24 * d + 66 }
set_option maxRecDepth 100000 in
set_option maxHeartbeats 4000000 in
theorem ww_f2_anyOf_b8 {d : Nat} {rec : Nat → (Nat → Int32) → (Nat → Nat → Int32) → (Nat → Int32) → (Nat → Nat → Int32) → Int32 → Option ((Nat → Nat → Int32) × (Nat → Int32) × (Nat → Int32))} (hrec0 : ∀ (l : Launch) (G : Gp) (h0 : Nat) (a0 : Nat → Nat) (h1 : Nat) (a1 : Nat → Nat) (f0 : Nat → Int32) (A0 : Nat → Nat → Int32) (f1 : Nat → Int32) (A1 : Nat → Nat → Int32) (p2 : Int32), ∀ {r : (Nat → Nat → Int32) × (Nat → Int32) × (Nat → Int32)}, rec 0 f0 A0 f1 A1 p2 = some r → CtrV l yX2_anyOf cX2_anyOf 5 none (rmGX2_anyOf d) G [.ref h0, .ref h1, .int p2] (wX2 G h0 a0 f0 A0 ++ (wX7 G h1 a1 f1 A1)) (wX2 G h0 a0 r.2.1 r.1 ++ (wX7 G h1 a1 r.2.2 A1))) (hrec1 : ∀ (l : Launch) (G : Gp) (h0 : Nat) (a0 : Nat → Nat) (h1 : Nat) (a1 : Nat → Nat) (f0 : Nat → Int32) (A0 : Nat → Nat → Int32) (f1 : Nat → Int32) (A1 : Nat → Nat → Int32) (p2 : Int32), ∀ {r : (Nat → Nat → Int32) × (Nat → Int32) × (Nat → Int32)}, rec 1 f0 A0 f1 A1 p2 = some r → CtrV l yX2_allOf cX2_allOf 5 none (rmGX2_anyOf d) G [.ref h0, .ref h1, .int p2] (wX2 G h0 a0 f0 A0 ++ (wX7 G h1 a1 f1 A1)) (wX2 G h0 a0 r.2.1 r.1 ++ (wX7 G h1 a1 r.2.2 A1))) (hrec2 : ∀ (l : Launch) (G : Gp) (h0 : Nat) (a0 : Nat → Nat) (h1 : Nat) (a1 : Nat → Nat) (f0 : Nat → Int32) (A0 : Nat → Nat → Int32) (f1 : Nat → Int32) (A1 : Nat → Nat → Int32) (p2 : Int32), ∀ {r : (Nat → Nat → Int32) × (Nat → Int32) × (Nat → Int32)}, rec 2 f0 A0 f1 A1 p2 = some r → CtrV l yX2_test cX2_test 5 none (rmGX2_anyOf d) G [.ref h0, .ref h1, .int p2] (wX2 G h0 a0 f0 A0 ++ (wX7 G h1 a1 f1 A1)) (wX2 G h0 a0 r.2.1 r.1 ++ (wX7 G h1 a1 r.2.2 A1))) (hrec3 : ∀ (l : Launch) (G : Gp) (h0 : Nat) (a0 : Nat → Nat) (h1 : Nat) (a1 : Nat → Nat) (f0 : Nat → Int32) (A0 : Nat → Nat → Int32) (f1 : Nat → Int32) (A1 : Nat → Nat → Int32) (p2 : Int32), ∀ {r : (Nat → Nat → Int32) × (Nat → Int32) × (Nat → Int32)}, rec 3 f0 A0 f1 A1 p2 = some r → CtrV l yX2_sum cX2_sum 5 none (rmGX2_anyOf d) G [.ref h0, .ref h1, .int p2] (wX2 G h0 a0 f0 A0 ++ (wX7 G h1 a1 f1 A1)) (wX2 G h0 a0 r.2.1 r.1 ++ (wX7 G h1 a1 r.2.2 A1))) (hrec4 : ∀ (l : Launch) (G : Gp) (h0 : Nat) (a0 : Nat → Nat) (h1 : Nat) (a1 : Nat → Nat) (f0 : Nat → Int32) (A0 : Nat → Nat → Int32) (f1 : Nat → Int32) (A1 : Nat → Nat → Int32) (p2 : Int32), ∀ {r : (Nat → Nat → Int32) × (Nat → Int32) × (Nat → Int32)}, rec 4 f0 A0 f1 A1 p2 = some r → CtrV l yX2_term cX2_term 5 none (rmGX2_anyOf d) G [.ref h0, .ref h1, .int p2] (wX2 G h0 a0 f0 A0 ++ (wX7 G h1 a1 f1 A1)) (wX2 G h0 a0 r.2.1 r.1 ++ (wX7 G h1 a1 r.2.2 A1))) (hrec5 : ∀ (l : Launch) (G : Gp) (h0 : Nat) (a0 : Nat → Nat) (h1 : Nat) (a1 : Nat → Nat) (f0 : Nat → Int32) (A0 : Nat → Nat → Int32) (f1 : Nat → Int32) (A1 : Nat → Nat → Int32) (p2 : Int32), ∀ {r : (Nat → Nat → Int32) × (Nat → Int32) × (Nat → Int32)}, rec 5 f0 A0 f1 A1 p2 = some r → CtrV l yX2_factor cX2_factor 4 none (rmGX2_anyOf d) G [.ref h0, .ref h1, .int p2] (wX2 G h0 a0 f0 A0 ++ (wX7 G h1 a1 f1 A1)) (wX2 G h0 a0 r.2.1 r.1 ++ (wX7 G h1 a1 r.2.2 A1))) (hdd : True)  (C0 : Cx cX2_anyOf 5 none RX2 p s m args meth c G DA) {h0 : Nat} {a0 : Nat → Nat} {h1 : Nat} {a1 : Nat → Nat} {A1 : Nat → Nat → Int32} {p2 : Int32}  {k8 : (Nat → Nat → Int32) → (Nat → Int32) → (Nat → Int32) → Int32 → Option ((Nat → Nat → Int32) × (Nat → Int32) × (Nat → Int32))} {res : (Nat → Nat → Int32) × (Nat → Int32) × (Nat → Int32)}  (hk8 : ∀ (A0 : Nat → Nat → Int32) (f0 : Nat → Int32) (f1 : Nat → Int32) (l3 : Int32), k8 A0 f0 f1 l3 = some res → ∀ (H : Heap) (locs : List Loc) (ls : Array Slot), WD G DA (wX2 G h0 a0 f0 A0 ++ (wX7 G h1 a1 f1 A1)) H → va_S DA s.heap H locs → lv_has ls 5 [(0, .ref h0), (1, .ref h1), (2, .int p2), (3, .int l3)] → W p l e (rmGX2_anyOf (d + 1)) s m args below meth c H locs 0 0 (MQ below (QV G DA (wX2 G h0 a0 res.2.1 res.1 ++ (wX7 G h1 a1 res.2.2 A1))) args s 0 0 DA) (F0 m 8 ls [])) : ∀ (A0 : Nat → Nat → Int32) (f0 : Nat → Int32) (f1 : Nat → Int32) (l3 : Int32), f2_anyOf_b8 rec A1 p2  k8 A0 f0 f1 l3 = some res → ∀ (H : Heap) (locs : List Loc) (ls : Array Slot), WD G DA (wX2 G h0 a0 f0 A0 ++ (wX7 G h1 a1 f1 A1)) H → va_S DA s.heap H locs → lv_has ls 5 [(0, .ref h0), (1, .ref h1), (2, .int p2), (3, .int l3)] → W p l e (rmGX2_anyOf (d + 1)) s m args below meth c H locs 0 0 (MQ below (QV G DA (wX2 G h0 a0 res.2.1 res.1 ++ (wX7 G h1 a1 res.2.2 A1))) args s 0 0 DA) (F0 m 8 ls []) := by
  obtain ⟨hx, hb, hml, hown, hts⟩ := C0.1
  have hK := C0.2.2.2.1
  intro A0 f0 f1 l3 h _ _ _ hPD hS hl
  unfold f2_anyOf_b8 at h
  refine lv_iload_n hx hb dX2_anyOf_8 rfl (lv_at hl 3 rfl) ?_
  refine lv_sipush (v := 240) hx hb dX2_anyOf_9 (by decide) ?_
  refine lv_icmp_ge (tgt := 68) hx hb dX2_anyOf_12 (by decide) (fun cc1 => ?_) (fun cc1 => ?_)
  · have h := (if_pos cc1).symm.trans h
    obtain rfl := Option.some.inj h
    exact eV C0 hPD.1 hPD.2 hS dX2_anyOf_68
  · have h := (if_neg cc1).symm.trans h
    refine lv_aload_n hx hb dX2_anyOf_15 rfl (lv_at hl 1 rfl) ?_
    refine kVI (As := []) (rest := []) C0 (kt_X7_isFine l G h1 a1 f1 A1) gi_V_X2_83_X7_isFine (n := 0) rfl (by decide +kernel) rfl ⟨rfl, rfl, by simp only [rmGX2_anyOf, rmX7_isFine]; omega, by simp only [rmGX2_anyOf, rmX7_isFine]; omega⟩ hPD hS 8 7 rfl rfl rfl [8, 9] [0, 1, 2, 3, 4, 5, 6, 7] [0, 1, 2, 3, 4, 5, 6, 7, 8, 9] (wr := (wX2 G h0 a0 f0 A0)) (wN := (wX2 G h0 a0 f0 A0 ++ (wX7 G h1 a1 f1 A1))) rfl rfl rfl rfl rfl hl.1 (Nat.le_of_ble_eq_true rfl) dX2_anyOf_16 (fun H locs hPD hS => ?_)
    refine lv_if_eq (tgt := 68) hx hb dX2_anyOf_19 (by decide) (fun cc1 => ?_) (fun cc1 => ?_)
    · have h := (if_pos cc1).symm.trans h
      obtain rfl := Option.some.inj h
      exact eV C0 hPD.1 hPD.2 hS dX2_anyOf_68
    · have h := (if_neg cc1).symm.trans h
      refine lv_aload_n hx hb dX2_anyOf_22 rfl (lv_at hl 1 rfl) ?_
      refine kVI (As := []) (rest := []) C0 (kt_X7_look l G h1 a1 f1 A1) gi_V_X2_54_X7_look (n := 0) rfl (by decide +kernel) rfl ⟨rfl, rfl, by simp only [rmGX2_anyOf, rmX7_look]; omega, by simp only [rmGX2_anyOf, rmX7_look]; omega⟩ hPD hS 8 7 rfl rfl rfl [8, 9] [0, 1, 2, 3, 4, 5, 6, 7] [0, 1, 2, 3, 4, 5, 6, 7, 8, 9] (wr := (wX2 G h0 a0 f0 A0)) (wN := (wX2 G h0 a0 f0 A0 ++ (wX7 G h1 a1 f1 A1))) rfl rfl rfl rfl rfl hl.1 (Nat.le_of_ble_eq_true rfl) dX2_anyOf_23 (fun H locs hPD hS => ?_)
      refine lv_bipush (v := 124) hx hb dX2_anyOf_26 (by decide) ?_
      refine lv_icmp_ne (tgt := 68) hx hb dX2_anyOf_28 (by decide) (fun cc1 => ?_) (fun cc1 => ?_)
      · have h := (if_neg cc1).symm.trans h
        obtain rfl := Option.some.inj h
        exact eV C0 hPD.1 hPD.2 hS dX2_anyOf_68
      · have h := (if_pos cc1).symm.trans h
        refine lv_aload_n hx hb dX2_anyOf_31 rfl (lv_at hl 1 rfl) ?_
        obtain ⟨z_2, ez_2, h⟩ := lvl h
        have kc := kt_X7_step l G h1 a1 f1 A1
        rw [← ez_2] at kc
        clear ez_2
        refine kVV (As := []) (rest := []) C0 (kc) gi_V_X2_62_X7_step (n := 0) rfl (by decide +kernel) rfl ⟨rfl, rfl, by simp only [rmGX2_anyOf, rmX7_step]; omega, by simp only [rmGX2_anyOf, rmX7_step]; omega⟩ hPD hS 8 7 rfl rfl rfl [8, 9] [0, 1, 2, 3, 4, 5, 6, 7] [0, 1, 2, 3, 4, 5, 6, 7, 8, 9] (wr := (wX2 G h0 a0 f0 A0)) (wN := (wX2 G h0 a0 f0 A0 ++ (wX7 G h1 a1 z_2 A1))) rfl rfl rfl rfl rfl hl.1 (Nat.le_of_ble_eq_true rfl) dX2_anyOf_32 (fun H locs hPD hS => ?_)
        refine lv_aload_n hx hb dX2_anyOf_35 rfl (lv_at hl 0 rfl) ?_
        refine lv_iconst (v := 5) hx hb dX2_anyOf_36 (by decide) ?_
        refine lv_iconst (v := 0) hx hb dX2_anyOf_37 (by decide) ?_
        obtain ⟨q_3, hq_3, h⟩ := ob2 h
        refine kVI (As := [.int 5, .int 0]) (rest := []) C0 (kt_X2_order l G h0 a0 f0 A0 5 0 hq_3) gi_V_X2_86_X2_order (n := 2) rfl (by decide +kernel) rfl ⟨rfl, rfl, by simp only [rmGX2_anyOf, rmX2_order]; omega, by simp only [rmGX2_anyOf, rmX2_order]; omega⟩ hPD hS 0 2 rfl rfl rfl [0, 1, 2, 3, 4, 5, 6, 7] [8, 9] [2, 3, 4, 5, 6, 7, 8, 9, 0, 1] (wr := (wX7 G h1 a1 z_2 A1)) (wN := (wX2 G h0 a0 q_3.2.2 q_3.2.1 ++ (wX7 G h1 a1 z_2 A1))) rfl rfl rfl rfl rfl hl.1 (Nat.le_of_ble_eq_true rfl) dX2_anyOf_38 (fun H locs hPD hS => ?_)
        refine lv_istore (lv' := [(4, .int q_3.1), (0, .ref h0), (1, .ref h1), (2, .int p2), (3, .int l3)]) hx hb dX2_anyOf_41 hl (by decide) rfl (fun ls hl => ?_)
        refine lv_aload_n hx hb dX2_anyOf_43 rfl (lv_at hl 1 rfl) ?_
        refine lv_aload_n hx hb dX2_anyOf_44 rfl (lv_at hl 2 rfl) ?_
        refine lv_iload_n hx hb dX2_anyOf_45 rfl (lv_at hl 3 rfl) ?_
        obtain ⟨q_4, hq_4, h⟩ := ob2 h
        refine kVV (As := [.ref h1, .int p2]) (rest := []) C0 (hrec1 l G h0 a0 h1 a1 q_3.2.2 q_3.2.1 z_2 A1 p2 hq_4) gi_V_X2_80_X2_allOf (n := 2) rfl (by decide +kernel) rfl ⟨rfl, rfl, by simp only [rmGX2_anyOf]; omega, by simp only [rmGX2_anyOf]; omega⟩ hPD hS 0 2 rfl rfl rfl [0, 1, 2, 3, 4, 5, 6, 7, 8, 9] [] [0, 1, 2, 3, 4, 5, 6, 7, 8, 9] (wr := ([] : va_W)) (wN := (wX2 G h0 a0 q_4.2.1 q_4.1 ++ (wX7 G h1 a1 q_4.2.2 A1))) rfl rfl rfl rfl rfl hl.1 (Nat.le_of_ble_eq_true rfl) dX2_anyOf_46 (fun H locs hPD hS => ?_)
        refine lv_aload_n hx hb dX2_anyOf_49 rfl (lv_at hl 1 rfl) ?_
        refine va_get (D := G.1) (ci := 2) (v := .ref (a0 1)) (C := RX2) (T := TX2) (N := 10) hx hb hts inlX2 hown hK hPD.1 0 rfl rfl 1 (by decide) (hts _ gw_131) (fun _ h9 => h9) rfl dX2_anyOf_50 ?_
        refine lv_iload hx hb dX2_anyOf_53 (lv_at hl 0 rfl) ?_
        refine lv_aload_n hx hb dX2_anyOf_55 rfl (lv_at hl 1 rfl) ?_
        refine va_get (D := G.1) (ci := 2) (v := .int (q_4.2.1 7)) (C := RX2) (T := TX2) (N := 10) hx hb hts inlX2 hown hK hPD.1 0 rfl rfl 7 (by decide) (hts _ gw_130) (fun _ h9 => h9) rfl dX2_anyOf_56 ?_
        obtain ⟨z_5, ez_5, h⟩ := lvl h
        have kc := kt_X9_put l G (a0 1) 240 (q_4.1 1) q_3.1 (q_4.2.1 7) (by decide)
        rw [← ez_5] at kc
        clear ez_5
        refine kNV (As := [.ref (a0 1), .int q_3.1, .int (q_4.2.1 7)]) (rest := []) C0 (kc) gi_U_X9_put (host := "IdleCrimes") (index := 65) (List.mem_of_getElem? (i := 12) rfl) gw_6 gw_19 (n := 3) rfl (by decide +kernel) ⟨rfl, rfl, by simp only [rmGX2_anyOf, rmX9_put]; omega, by simp only [rmGX2_anyOf, rmX9_put]; omega⟩ hPD hS [2] [0, 1, 3, 4, 5, 6, 7, 8, 9] [0, 1, 9, 2, 3, 4, 5, 6, 7, 8] (wr := pick (wX2 G h0 a0 q_4.2.1 q_4.1 ++ (wX7 G h1 a1 q_4.2.2 A1)) [0, 1, 3, 4, 5, 6, 7, 8, 9]) (wN := (wX2 G h0 a0 q_4.2.1 (updA q_4.1 1 z_5) ++ (wX7 G h1 a1 q_4.2.2 A1))) rfl rfl rfl rfl rfl hl.1 (Nat.le_of_ble_eq_true rfl) dX2_anyOf_59 (fun H locs hPD hS => ?_)
        obtain ⟨A0_6, eA0_6, h⟩ := lvl h
        have hPD : WD G DA (wX2 G h0 a0 q_4.2.1 A0_6 ++ (wX7 G h1 a1 q_4.2.2 A1)) H := by rw [eA0_6]; exact hPD
        clear eA0_6
        refine lv_iinc (v := l3 + 1) (lv' := [(3, .int (l3 + 1)), (4, .int q_3.1), (0, .ref h0), (1, .ref h1), (2, .int p2)]) hx hb dX2_anyOf_62 hl (k := 4) rfl rfl (by decide) rfl (fun ls hl => ?_)
        refine lv_goto (tgt := 8) hx hb dX2_anyOf_65 (by decide) ?_
        exact hk8 A0_6 q_4.2.1 q_4.2.2 (l3 + 1) h _ _ _ hPD hS (lv_sub hl [2, 3, 4, 0] rfl)
end WALK
