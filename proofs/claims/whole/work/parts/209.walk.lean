section WALK
variable {p : Program} {l : Launch} {e : Env} {s : State} {m : MethodId} {args : Array Value} {below : List Frame} {meth : Method} {c : Code} {G : Gp} {DA : Nat → Prop}
set_option maxRecDepth 100000 in
set_option maxHeartbeats 4000000 in
theorem ww_f2_reckoned_l14  (C0 : Cx cX2_reckoned 11 (some .int) RX2 p s m args meth c G DA) {h0 : Nat} {a0 : Nat → Nat} {q1 : Nat} {n1 : Nat} {xs1 : Nat → Int32} {p1 : Int32} {p2 : Int32} (hn1 : n1 < 2147483648)  {res : Int32 × (Nat → Nat → Int32) × (Nat → Int32)}  : ∀ (n : Nat) (A0 : Nat → Nat → Int32) (f0 : Nat → Int32) (l4 : Int32) (l5 : Int32) (l6 : Int32), f2_reckoned_l14 n1 xs1 p1 p2  n A0 f0 l4 l5 l6 = some res → ∀ (H : Heap) (locs : List Loc) (ls : Array Slot), WD G DA (wX2 G h0 a0 f0 A0 ++ (wI G q1 n1 xs1)) H → va_S DA s.heap H locs → lv_has ls 11 [(0, .ref h0), (1, .int p1), (2, .int p2), (3, .ref q1), (4, .int l4), (5, .int l5), (6, .int l6)] → W p l e rmX2_reckoned s m args below meth c H locs 0 0 (MQ below (QI G DA res.1 (wX2 G h0 a0 res.2.2 res.2.1 ++ (wI G q1 n1 xs1))) args s 0 0 DA) (F0 m 14 ls []) := by
  intro n
  induction n with
  | zero => intro A0 f0 l4 l5 l6 h; cases h
  | succ n ih => intro A0 f0 l4 l5 l6 h; exact ww_f2_reckoned_b14 C0 hn1  ih A0 f0 l4 l5 l6 h
set_option maxRecDepth 100000 in
set_option maxHeartbeats 4000000 in
theorem kt_X2_reckoned (l : Launch) (G : Gp) (h0 : Nat) (a0 : Nat → Nat) (q1 : Nat) (f0 : Nat → Int32) (A0 : Nat → Nat → Int32) (n1 : Nat) (xs1 : Nat → Int32) (p1 : Int32) (p2 : Int32) (hn1 : n1 < 2147483648) : ∀ {r : Int32 × (Nat → Nat → Int32) × (Nat → Int32)}, f2_reckoned f0 A0 n1 xs1 p1 p2 = some r → CtrI l yX2_reckoned cX2_reckoned 11 (some .int) rmX2_reckoned G [.ref h0, .int p1, .int p2, .ref q1] (wX2 G h0 a0 f0 A0 ++ (wI G q1 n1 xs1)) r.1 (wX2 G h0 a0 r.2.2 r.2.1 ++ (wI G q1 n1 xs1)) := by
  intro res h
  refine ctrI_of (cc := cX2_reckoned) (maxL := 11) (ret := (some .int)) (by decide +kernel) rfl (Nat.le_of_ble_eq_true rfl) (fun p e s m below meth c DA C0 hP hD ls hl => ?_)
  have hPD : WD G DA (wX2 G h0 a0 f0 A0 ++ (wI G q1 n1 xs1)) s.heap := ⟨hP, hD⟩
  have hS : va_S DA s.heap s.heap [] := va_S.rf
  have hl : lv_has ls 11 [(0, .ref h0), (1, .int p1), (2, .int p2), (3, .ref q1)] := hl
  obtain ⟨hx, hb, hml, hown, hts⟩ := C0.1
  have hK := C0.2.2.2.1
  unfold f2_reckoned at h
  refine lv_iconst (v := 0) hx hb dX2_reckoned_0 (by decide) ?_
  refine lv_istore (lv' := [(4, .int 0), (0, .ref h0), (1, .int p1), (2, .int p2), (3, .ref q1)]) hx hb dX2_reckoned_1 hl (by decide) rfl (fun ls hl => ?_)
  refine lv_iload_n hx hb dX2_reckoned_3 rfl (lv_at hl 2 rfl) ?_
  refine lv_istore (lv' := [(5, .int p1), (4, .int 0), (0, .ref h0), (1, .int p1), (2, .int p2), (3, .ref q1)]) hx hb dX2_reckoned_4 hl (by decide) rfl (fun ls hl => ?_)
  refine lv_aload_n hx hb dX2_reckoned_6 rfl (lv_at hl 2 rfl) ?_
  refine lv_iconst (v := 0) hx hb dX2_reckoned_7 (by decide) ?_
  refine va_put (D := G.1) (ci := 2) (v := .int 0) (ty := .boolean) (C := RX2) (T := TX2) (N := 10) hx hb hts inlX2 tyX2 tyX2_ok nmX2 hown hK hPD.1 hPD.2 hS 0 rfl rfl 8 (by decide) (hts _ gw_194) (fun _ h9 => h9) rfl (by decide +kernel) rfl rfl (Nat.le_of_ble_eq_true rfl) dX2_reckoned_8 (fun H locs hP hD hS => ?_)
  obtain ⟨f0_1, ef0_1, h⟩ := lvl h
  have hPD : WD G DA (wX2 G h0 a0 f0_1 A0 ++ (wI G q1 n1 xs1)) H := by rw [ef0_1]; exact ⟨hP, hD⟩
  clear ef0_1 hP hD
  refine lv_iconst (v := 0) hx hb dX2_reckoned_11 (by decide) ?_
  refine lv_istore (lv' := [(6, .int 0), (5, .int p1), (4, .int 0), (0, .ref h0), (1, .int p1), (2, .int p2), (3, .ref q1)]) hx hb dX2_reckoned_12 hl (by decide) rfl (fun ls hl => ?_)
  exact ww_f2_reckoned_l14 C0 hn1 NF A0 f0_1 0 p1 0 h _ _ _ hPD hS (lv_sub hl [3, 4, 5, 6, 2, 1, 0] rfl)
abbrev rmX2_isSafe : Room := { frames := 2, cells := 0, slots := 0, locals := 53 }
set_option maxRecDepth 100000 in
set_option maxHeartbeats 4000000 in
theorem ww_f2_isSafe_b2  (C0 : Cx cX2_isSafe 3 (some .boolean) RX2 p s m args meth c G DA) {h0 : Nat} {a0 : Nat → Nat} {q1 : Nat} {n1 : Nat} {xs1 : Nat → Int32} (hn1 : n1 < 2147483648) {k2 : (Nat → Nat → Int32) → (Nat → Int32) → Int32 → Option (Int32 × (Nat → Nat → Int32) × (Nat → Int32))} {res : Int32 × (Nat → Nat → Int32) × (Nat → Int32)}  (hk2 : ∀ (A0 : Nat → Nat → Int32) (f0 : Nat → Int32) (l2 : Int32), k2 A0 f0 l2 = some res → ∀ (H : Heap) (locs : List Loc) (ls : Array Slot), WD G DA (wX2 G h0 a0 f0 A0 ++ (wI G q1 n1 xs1)) H → va_S DA s.heap H locs → lv_has ls 3 [(0, .ref h0), (1, .ref q1), (2, .int l2)] → W p l e rmX2_isSafe s m args below meth c H locs 0 0 (MQ below (QI G DA res.1 (wX2 G h0 a0 res.2.2 res.2.1 ++ (wI G q1 n1 xs1))) args s 0 0 DA) (F0 m 2 ls [])) : ∀ (A0 : Nat → Nat → Int32) (f0 : Nat → Int32) (l2 : Int32), f2_isSafe_b2 n1 xs1  k2 A0 f0 l2 = some res → ∀ (H : Heap) (locs : List Loc) (ls : Array Slot), WD G DA (wX2 G h0 a0 f0 A0 ++ (wI G q1 n1 xs1)) H → va_S DA s.heap H locs → lv_has ls 3 [(0, .ref h0), (1, .ref q1), (2, .int l2)] → W p l e rmX2_isSafe s m args below meth c H locs 0 0 (MQ below (QI G DA res.1 (wX2 G h0 a0 res.2.2 res.2.1 ++ (wI G q1 n1 xs1))) args s 0 0 DA) (F0 m 2 ls []) := by
  obtain ⟨hx, hb, hml, hown, hts⟩ := C0.1
  have hK := C0.2.2.2.1
  intro A0 f0 l2 h _ _ _ hPD hS hl
  unfold f2_isSafe_b2 at h
  refine lv_iload_n hx hb dX2_isSafe_2 rfl (lv_at hl 2 rfl) ?_
  refine lv_aload_n hx hb dX2_isSafe_3 rfl (lv_at hl 0 rfl) ?_
  refine va_get (D := G.1) (ci := 2) (v := .int (f0 9)) (C := RX2) (T := TX2) (N := 10) hx hb hts inlX2 hown hK hPD.1 0 rfl rfl 9 (by decide) (hts _ gw_180) (fun _ h9 => h9) rfl dX2_isSafe_4 ?_
  refine lv_icmp_ge (tgt := 55) hx hb dX2_isSafe_7 (by decide) (fun cc1 => ?_) (fun cc1 => ?_)
  · have h := (if_pos cc1).symm.trans h
    refine lv_iconst (v := 0) hx hb dX2_isSafe_55 (by decide) ?_
    obtain rfl := Option.some.inj h
    exact eZ C0 hPD.1 hPD.2 hS rfl rfl dX2_isSafe_56
  · have h := (if_neg cc1).symm.trans h
    refine lv_aload_n hx hb dX2_isSafe_10 rfl (lv_at hl 0 rfl) ?_
    refine va_get (D := G.1) (ci := 2) (v := .ref (a0 2)) (C := RX2) (T := TX2) (N := 10) hx hb hts inlX2 hown hK hPD.1 0 rfl rfl 2 (by decide) (hts _ gw_181) (fun _ h9 => h9) rfl dX2_isSafe_11 ?_
    refine lv_iload_n hx hb dX2_isSafe_14 rfl (lv_at hl 2 rfl) ?_
    refine kNI (As := [.ref (a0 2), .int l2]) (rest := []) C0 (kt_X9_at l G (a0 2) 16 (A0 2) l2 (by decide)) gi_U_X9_at (host := "IdleCrimes") (index := 113) (List.mem_of_getElem? (i := 28) rfl) gw_6 gw_7 (n := 2) rfl (by decide +kernel) ⟨rfl, rfl, Nat.le_of_ble_eq_true rfl, Nat.le_of_ble_eq_true rfl⟩ hPD hS [3] [0, 1, 2, 4, 5, 6, 7, 8] [0, 1, 2, 8, 3, 4, 5, 6, 7] (wr := pick (wX2 G h0 a0 f0 A0 ++ (wI G q1 n1 xs1)) [0, 1, 2, 4, 5, 6, 7, 8]) (wN := (wX2 G h0 a0 f0 A0 ++ (wI G q1 n1 xs1))) rfl rfl rfl rfl rfl hl.1 (Nat.le_of_ble_eq_true rfl) dX2_isSafe_15 (fun H locs hPD hS => ?_)
    refine lv_bipush (v := 115) hx hb dX2_isSafe_18 (by decide) ?_
    refine lv_icmp_ne (tgt := 49) hx hb dX2_isSafe_20 (by decide) (fun cc1 => ?_) (fun cc1 => ?_)
    · have h := (if_neg cc1).symm.trans h
      refine lv_iinc (v := l2 + 1) (lv' := [(2, .int (l2 + 1)), (0, .ref h0), (1, .ref q1)]) hx hb dX2_isSafe_49 hl (k := 2) rfl rfl (by decide) rfl (fun ls hl => ?_)
      refine lv_goto (tgt := 2) hx hb dX2_isSafe_52 (by decide) ?_
      exact hk2 A0 f0 (l2 + 1) h _ _ _ hPD hS (lv_sub hl [1, 2, 0] rfl)
    · have h := (if_pos cc1).symm.trans h
      refine lv_aload_n hx hb dX2_isSafe_23 rfl (lv_at hl 0 rfl) ?_
      refine lv_aload_n hx hb dX2_isSafe_24 rfl (lv_at hl 0 rfl) ?_
      refine va_get (D := G.1) (ci := 2) (v := .ref (a0 4)) (C := RX2) (T := TX2) (N := 10) hx hb hts inlX2 hown hK hPD.1 0 rfl rfl 4 (by decide) (hts _ gw_183) (fun _ h9 => h9) rfl dX2_isSafe_25 ?_
      refine lv_iload_n hx hb dX2_isSafe_28 rfl (lv_at hl 2 rfl) ?_
      refine kNI (As := [.ref (a0 4), .int l2]) (rest := [.ref h0]) C0 (kt_X9_at l G (a0 4) 16 (A0 4) l2 (by decide)) gi_U_X9_at (host := "IdleCrimes") (index := 113) (List.mem_of_getElem? (i := 28) rfl) gw_6 gw_7 (n := 2) rfl (by decide +kernel) ⟨rfl, rfl, Nat.le_of_ble_eq_true rfl, Nat.le_of_ble_eq_true rfl⟩ hPD hS [5] [0, 1, 2, 3, 4, 6, 7, 8] [0, 1, 2, 3, 4, 8, 5, 6, 7] (wr := pick (wX2 G h0 a0 f0 A0 ++ (wI G q1 n1 xs1)) [0, 1, 2, 3, 4, 6, 7, 8]) (wN := (wX2 G h0 a0 f0 A0 ++ (wI G q1 n1 xs1))) rfl rfl rfl rfl rfl hl.1 (Nat.le_of_ble_eq_true rfl) dX2_isSafe_29 (fun H locs hPD hS => ?_)
      refine lv_aload_n hx hb dX2_isSafe_32 rfl (lv_at hl 0 rfl) ?_
      refine va_get (D := G.1) (ci := 2) (v := .ref (a0 5)) (C := RX2) (T := TX2) (N := 10) hx hb hts inlX2 hown hK hPD.1 0 rfl rfl 5 (by decide) (hts _ gw_184) (fun _ h9 => h9) rfl dX2_isSafe_33 ?_
      refine lv_iload_n hx hb dX2_isSafe_36 rfl (lv_at hl 2 rfl) ?_
      refine kNI (As := [.ref (a0 5), .int l2]) (rest := [.int (f9_at 16 (A0 4) l2), .ref h0]) C0 (kt_X9_at l G (a0 5) 16 (A0 5) l2 (by decide)) gi_U_X9_at (host := "IdleCrimes") (index := 113) (List.mem_of_getElem? (i := 28) rfl) gw_6 gw_7 (n := 2) rfl (by decide +kernel) ⟨rfl, rfl, Nat.le_of_ble_eq_true rfl, Nat.le_of_ble_eq_true rfl⟩ hPD hS [6] [0, 1, 2, 3, 4, 5, 7, 8] [0, 1, 2, 3, 4, 5, 8, 6, 7] (wr := pick (wX2 G h0 a0 f0 A0 ++ (wI G q1 n1 xs1)) [0, 1, 2, 3, 4, 5, 7, 8]) (wN := (wX2 G h0 a0 f0 A0 ++ (wI G q1 n1 xs1))) rfl rfl rfl rfl rfl hl.1 (Nat.le_of_ble_eq_true rfl) dX2_isSafe_37 (fun H locs hPD hS => ?_)
      refine lv_aload_n hx hb dX2_isSafe_40 rfl (lv_at hl 1 rfl) ?_
      obtain ⟨q_1, hq_1, h⟩ := ob2 h
      refine kVI (As := [.int (f9_at 16 (A0 4) l2), .int (f9_at 16 (A0 5) l2), .ref q1]) (rest := []) C0 (kt_X2_reckoned l G h0 a0 q1 f0 A0 n1 xs1 (f9_at 16 (A0 4) l2) (f9_at 16 (A0 5) l2) hn1 hq_1) gi_V_X2_117_X2_reckoned (n := 3) rfl (by decide +kernel) rfl ⟨rfl, rfl, Nat.le_of_ble_eq_true rfl, Nat.le_of_ble_eq_true rfl⟩ hPD hS 0 2 rfl rfl rfl [0, 1, 2, 3, 4, 5, 6, 7, 8] [] [0, 1, 2, 3, 4, 5, 6, 7, 8] (wr := pick (wX2 G h0 a0 f0 A0 ++ (wI G q1 n1 xs1)) []) (wN := (wX2 G h0 a0 q_1.2.2 q_1.2.1 ++ (wI G q1 n1 xs1))) rfl rfl rfl rfl rfl hl.1 (Nat.le_of_ble_eq_true rfl) dX2_isSafe_41 (fun H locs hPD hS => ?_)
      refine lv_if_eq (tgt := 49) hx hb dX2_isSafe_44 (by decide) (fun cc1 => ?_) (fun cc1 => ?_)
      · have h := (if_pos cc1).symm.trans h
        refine lv_iinc (v := l2 + 1) (lv' := [(2, .int (l2 + 1)), (0, .ref h0), (1, .ref q1)]) hx hb dX2_isSafe_49 hl (k := 2) rfl rfl (by decide) rfl (fun ls hl => ?_)
        refine lv_goto (tgt := 2) hx hb dX2_isSafe_52 (by decide) ?_
        exact hk2 q_1.2.1 q_1.2.2 (l2 + 1) h _ _ _ hPD hS (lv_sub hl [1, 2, 0] rfl)
      · have h := (if_neg cc1).symm.trans h
        refine lv_iconst (v := 1) hx hb dX2_isSafe_47 (by decide) ?_
        obtain rfl := Option.some.inj h
        exact eZ C0 hPD.1 hPD.2 hS rfl rfl dX2_isSafe_48
set_option maxRecDepth 100000 in
set_option maxHeartbeats 4000000 in
theorem ww_f2_isSafe_l2  (C0 : Cx cX2_isSafe 3 (some .boolean) RX2 p s m args meth c G DA) {h0 : Nat} {a0 : Nat → Nat} {q1 : Nat} {n1 : Nat} {xs1 : Nat → Int32} (hn1 : n1 < 2147483648)  {res : Int32 × (Nat → Nat → Int32) × (Nat → Int32)}  : ∀ (n : Nat) (A0 : Nat → Nat → Int32) (f0 : Nat → Int32) (l2 : Int32), f2_isSafe_l2 n1 xs1  n A0 f0 l2 = some res → ∀ (H : Heap) (locs : List Loc) (ls : Array Slot), WD G DA (wX2 G h0 a0 f0 A0 ++ (wI G q1 n1 xs1)) H → va_S DA s.heap H locs → lv_has ls 3 [(0, .ref h0), (1, .ref q1), (2, .int l2)] → W p l e rmX2_isSafe s m args below meth c H locs 0 0 (MQ below (QI G DA res.1 (wX2 G h0 a0 res.2.2 res.2.1 ++ (wI G q1 n1 xs1))) args s 0 0 DA) (F0 m 2 ls []) := by
  intro n
  induction n with
  | zero => intro A0 f0 l2 h; cases h
  | succ n ih => intro A0 f0 l2 h; exact ww_f2_isSafe_b2 C0 hn1  ih A0 f0 l2 h
set_option maxRecDepth 100000 in
set_option maxHeartbeats 4000000 in
theorem kt_X2_isSafe (l : Launch) (G : Gp) (h0 : Nat) (a0 : Nat → Nat) (q1 : Nat) (f0 : Nat → Int32) (A0 : Nat → Nat → Int32) (n1 : Nat) (xs1 : Nat → Int32) (hn1 : n1 < 2147483648) : ∀ {r : Int32 × (Nat → Nat → Int32) × (Nat → Int32)}, f2_isSafe f0 A0 n1 xs1 = some r → CtrI l yX2_isSafe cX2_isSafe 3 (some .boolean) rmX2_isSafe G [.ref h0, .ref q1] (wX2 G h0 a0 f0 A0 ++ (wI G q1 n1 xs1)) r.1 (wX2 G h0 a0 r.2.2 r.2.1 ++ (wI G q1 n1 xs1)) := by
  intro res h
  refine ctrI_of (cc := cX2_isSafe) (maxL := 3) (ret := (some .boolean)) (by decide +kernel) rfl (Nat.le_of_ble_eq_true rfl) (fun p e s m below meth c DA C0 hP hD ls hl => ?_)
  have hPD : WD G DA (wX2 G h0 a0 f0 A0 ++ (wI G q1 n1 xs1)) s.heap := ⟨hP, hD⟩
  have hS : va_S DA s.heap s.heap [] := va_S.rf
  have hl : lv_has ls 3 [(0, .ref h0), (1, .ref q1)] := hl
  obtain ⟨hx, hb, hml, hown, hts⟩ := C0.1
  have hK := C0.2.2.2.1
  unfold f2_isSafe at h
  refine lv_iconst (v := 0) hx hb dX2_isSafe_0 (by decide) ?_
  refine lv_istore_n (lv' := [(2, .int 0), (0, .ref h0), (1, .ref q1)]) hx hb dX2_isSafe_1 rfl hl (by decide) rfl (fun ls hl => ?_)
  exact ww_f2_isSafe_l2 C0 hn1 NF A0 f0 0 h _ _ _ hPD hS (lv_sub hl [1, 2, 0] rfl)
abbrev rmX9_clamp : Room := { frames := 1, cells := 0, slots := 0, locals := 21 }
set_option maxRecDepth 100000 in
set_option maxHeartbeats 4000000 in
theorem kt_X9_clamp (l : Launch) (G : Gp) (p0 : Int32) (p1 : Int32) (p2 : Int32) : CtrI l yX9_clamp cX9_clamp 3 (some .int) rmX9_clamp G [.int p0, .int p1, .int p2] ([] : va_W) (f9_clamp p0 p1 p2) ([] : va_W) := by
  obtain ⟨res, h⟩ : ∃ res, f9_clamp p0 p1 p2 = res := ⟨_, rfl⟩
  rw [h]
  refine ctrI_of (cc := cX9_clamp) (maxL := 3) (ret := (some .int)) (by decide +kernel) rfl (Nat.le_of_ble_eq_true rfl) (fun p e s m below meth c DA C0 hP hD ls hl => ?_)
  have hPD : WD G DA ([] : va_W) s.heap := ⟨hP, hD⟩
  have hS : va_S DA s.heap s.heap [] := va_S.rf
  have hl : lv_has ls 3 [(0, .int p0), (1, .int p1), (2, .int p2)] := hl
  obtain ⟨hx, hb, hml, hown, hts⟩ := C0.1
  have hK := C0.2.2.2.1
  unfold f9_clamp at h
  refine lv_iload_n hx hb dX9_clamp_0 rfl (lv_at hl 1 rfl) ?_
  refine lv_iload_n hx hb dX9_clamp_1 rfl (lv_at hl 0 rfl) ?_
  refine lv_iload_n hx hb dX9_clamp_2 rfl (lv_at hl 2 rfl) ?_
  refine va_mmin hx hb (hml.trans hl.1.symm) hown (hts _ gw_204) (hts _ gw_205) (hts _ gw_206) (hts _ gw_207) (Nat.le_of_ble_eq_true rfl) (Nat.le_of_ble_eq_true rfl) (Nat.zero_le _) (Nat.zero_le _) dX9_clamp_3 ?_
  refine va_mmax hx hb (hml.trans hl.1.symm) hown (hts _ gw_208) (hts _ gw_209) (hts _ gw_206) (hts _ gw_210) (Nat.le_of_ble_eq_true rfl) (Nat.le_of_ble_eq_true rfl) (Nat.zero_le _) (Nat.zero_le _) dX9_clamp_6 ?_
  subst h
  exact eI C0 hPD.1 hPD.2 hS rfl dX9_clamp_9
abbrev rmX2_rate : Room := { frames := 2, cells := 0, slots := 0, locals := 53 }
set_option maxRecDepth 100000 in
set_option maxHeartbeats 4000000 in
theorem ww_f2_rate_b3  (C0 : Cx cX2_rate 5 (some .int) RX2 p s m args meth c G DA) {h0 : Nat} {a0 : Nat → Nat} {q1 : Nat} {n1 : Nat} {xs1 : Nat → Int32} {p1 : Int32} {p2 : Int32} (hn1 : n1 < 2147483648) {k3 : (Nat → Nat → Int32) → (Nat → Int32) → Int32 → Option (Int32 × (Nat → Nat → Int32) × (Nat → Int32))} {res : Int32 × (Nat → Nat → Int32) × (Nat → Int32)}  (hk3 : ∀ (A0 : Nat → Nat → Int32) (f0 : Nat → Int32) (l4 : Int32), k3 A0 f0 l4 = some res → ∀ (H : Heap) (locs : List Loc) (ls : Array Slot), WD G DA (wX2 G h0 a0 f0 A0 ++ (wI G q1 n1 xs1)) H → va_S DA s.heap H locs → lv_has ls 5 [(0, .ref h0), (1, .int p1), (2, .int p2), (3, .ref q1), (4, .int l4)] → W p l e rmX2_rate s m args below meth c H locs 0 0 (MQ below (QI G DA res.1 (wX2 G h0 a0 res.2.2 res.2.1 ++ (wI G q1 n1 xs1))) args s 0 0 DA) (F0 m 3 ls [])) : ∀ (A0 : Nat → Nat → Int32) (f0 : Nat → Int32) (l4 : Int32), f2_rate_b3 n1 xs1 p1 p2  k3 A0 f0 l4 = some res → ∀ (H : Heap) (locs : List Loc) (ls : Array Slot), WD G DA (wX2 G h0 a0 f0 A0 ++ (wI G q1 n1 xs1)) H → va_S DA s.heap H locs → lv_has ls 5 [(0, .ref h0), (1, .int p1), (2, .int p2), (3, .ref q1), (4, .int l4)] → W p l e rmX2_rate s m args below meth c H locs 0 0 (MQ below (QI G DA res.1 (wX2 G h0 a0 res.2.2 res.2.1 ++ (wI G q1 n1 xs1))) args s 0 0 DA) (F0 m 3 ls []) := by
  obtain ⟨hx, hb, hml, hown, hts⟩ := C0.1
  have hK := C0.2.2.2.1
  intro A0 f0 l4 h _ _ _ hPD hS hl
  unfold f2_rate_b3 at h
  refine lv_iload hx hb dX2_rate_3 (lv_at hl 4 rfl) ?_
  refine lv_aload_n hx hb dX2_rate_5 rfl (lv_at hl 0 rfl) ?_
  refine va_get (D := G.1) (ci := 2) (v := .int (f0 9)) (C := RX2) (T := TX2) (N := 10) hx hb hts inlX2 hown hK hPD.1 0 rfl rfl 9 (by decide) (hts _ gw_180) (fun _ h9 => h9) rfl dX2_rate_6 ?_
  refine lv_icmp_ge (tgt := 86) hx hb dX2_rate_9 (by decide) (fun cc1 => ?_) (fun cc1 => ?_)
  · have h := (if_pos cc1).symm.trans h
    refine lv_iconst (v := 0) hx hb dX2_rate_86 (by decide) ?_
    obtain rfl := Option.some.inj h
    exact eI C0 hPD.1 hPD.2 hS rfl dX2_rate_87
  · have h := (if_neg cc1).symm.trans h
    refine lv_aload_n hx hb dX2_rate_12 rfl (lv_at hl 0 rfl) ?_
    refine va_get (D := G.1) (ci := 2) (v := .ref (a0 2)) (C := RX2) (T := TX2) (N := 10) hx hb hts inlX2 hown hK hPD.1 0 rfl rfl 2 (by decide) (hts _ gw_181) (fun _ h9 => h9) rfl dX2_rate_13 ?_
    refine lv_iload hx hb dX2_rate_16 (lv_at hl 4 rfl) ?_
    refine kNI (As := [.ref (a0 2), .int l4]) (rest := []) C0 (kt_X9_at l G (a0 2) 16 (A0 2) l4 (by decide)) gi_U_X9_at (host := "IdleCrimes") (index := 113) (List.mem_of_getElem? (i := 28) rfl) gw_6 gw_7 (n := 2) rfl (by decide +kernel) ⟨rfl, rfl, Nat.le_of_ble_eq_true rfl, Nat.le_of_ble_eq_true rfl⟩ hPD hS [3] [0, 1, 2, 4, 5, 6, 7, 8] [0, 1, 2, 8, 3, 4, 5, 6, 7] (wr := pick (wX2 G h0 a0 f0 A0 ++ (wI G q1 n1 xs1)) [0, 1, 2, 4, 5, 6, 7, 8]) (wN := (wX2 G h0 a0 f0 A0 ++ (wI G q1 n1 xs1))) rfl rfl rfl rfl rfl hl.1 (Nat.le_of_ble_eq_true rfl) dX2_rate_18 (fun H locs hPD hS => ?_)
    refine lv_iload_n hx hb dX2_rate_21 rfl (lv_at hl 1 rfl) ?_
    refine lv_icmp_ne (tgt := 80) hx hb dX2_rate_22 (by decide) (fun cc1 => ?_) (fun cc1 => ?_)
    · have h := (if_neg cc1).symm.trans h
      refine lv_iinc (v := l4 + 1) (lv' := [(4, .int (l4 + 1)), (0, .ref h0), (1, .int p1), (2, .int p2), (3, .ref q1)]) hx hb dX2_rate_80 hl (k := 4) rfl rfl (by decide) rfl (fun ls hl => ?_)
      refine lv_goto (tgt := 3) hx hb dX2_rate_83 (by decide) ?_
      exact hk3 A0 f0 (l4 + 1) h _ _ _ hPD hS (lv_sub hl [1, 2, 3, 4, 0] rfl)
    · have h := (if_pos cc1).symm.trans h
      refine lv_aload_n hx hb dX2_rate_25 rfl (lv_at hl 0 rfl) ?_
      refine lv_aload_n hx hb dX2_rate_26 rfl (lv_at hl 0 rfl) ?_
      refine va_get (D := G.1) (ci := 2) (v := .ref (a0 4)) (C := RX2) (T := TX2) (N := 10) hx hb hts inlX2 hown hK hPD.1 0 rfl rfl 4 (by decide) (hts _ gw_183) (fun _ h9 => h9) rfl dX2_rate_27 ?_
      refine lv_iload hx hb dX2_rate_30 (lv_at hl 4 rfl) ?_
      refine kNI (As := [.ref (a0 4), .int l4]) (rest := [.ref h0]) C0 (kt_X9_at l G (a0 4) 16 (A0 4) l4 (by decide)) gi_U_X9_at (host := "IdleCrimes") (index := 113) (List.mem_of_getElem? (i := 28) rfl) gw_6 gw_7 (n := 2) rfl (by decide +kernel) ⟨rfl, rfl, Nat.le_of_ble_eq_true rfl, Nat.le_of_ble_eq_true rfl⟩ hPD hS [5] [0, 1, 2, 3, 4, 6, 7, 8] [0, 1, 2, 3, 4, 8, 5, 6, 7] (wr := pick (wX2 G h0 a0 f0 A0 ++ (wI G q1 n1 xs1)) [0, 1, 2, 3, 4, 6, 7, 8]) (wN := (wX2 G h0 a0 f0 A0 ++ (wI G q1 n1 xs1))) rfl rfl rfl rfl rfl hl.1 (Nat.le_of_ble_eq_true rfl) dX2_rate_32 (fun H locs hPD hS => ?_)
      refine lv_aload_n hx hb dX2_rate_35 rfl (lv_at hl 0 rfl) ?_
      refine va_get (D := G.1) (ci := 2) (v := .ref (a0 5)) (C := RX2) (T := TX2) (N := 10) hx hb hts inlX2 hown hK hPD.1 0 rfl rfl 5 (by decide) (hts _ gw_184) (fun _ h9 => h9) rfl dX2_rate_36 ?_
      refine lv_iload hx hb dX2_rate_39 (lv_at hl 4 rfl) ?_
      refine kNI (As := [.ref (a0 5), .int l4]) (rest := [.int (f9_at 16 (A0 4) l4), .ref h0]) C0 (kt_X9_at l G (a0 5) 16 (A0 5) l4 (by decide)) gi_U_X9_at (host := "IdleCrimes") (index := 113) (List.mem_of_getElem? (i := 28) rfl) gw_6 gw_7 (n := 2) rfl (by decide +kernel) ⟨rfl, rfl, Nat.le_of_ble_eq_true rfl, Nat.le_of_ble_eq_true rfl⟩ hPD hS [6] [0, 1, 2, 3, 4, 5, 7, 8] [0, 1, 2, 3, 4, 5, 8, 6, 7] (wr := pick (wX2 G h0 a0 f0 A0 ++ (wI G q1 n1 xs1)) [0, 1, 2, 3, 4, 5, 7, 8]) (wN := (wX2 G h0 a0 f0 A0 ++ (wI G q1 n1 xs1))) rfl rfl rfl rfl rfl hl.1 (Nat.le_of_ble_eq_true rfl) dX2_rate_41 (fun H locs hPD hS => ?_)
      refine lv_aload_n hx hb dX2_rate_44 rfl (lv_at hl 3 rfl) ?_
      obtain ⟨q_1, hq_1, h⟩ := ob2 h
      refine kVI (As := [.int (f9_at 16 (A0 4) l4), .int (f9_at 16 (A0 5) l4), .ref q1]) (rest := []) C0 (kt_X2_reckoned l G h0 a0 q1 f0 A0 n1 xs1 (f9_at 16 (A0 4) l4) (f9_at 16 (A0 5) l4) hn1 hq_1) gi_V_X2_117_X2_reckoned (n := 3) rfl (by decide +kernel) rfl ⟨rfl, rfl, Nat.le_of_ble_eq_true rfl, Nat.le_of_ble_eq_true rfl⟩ hPD hS 0 2 rfl rfl rfl [0, 1, 2, 3, 4, 5, 6, 7, 8] [] [0, 1, 2, 3, 4, 5, 6, 7, 8] (wr := pick (wX2 G h0 a0 f0 A0 ++ (wI G q1 n1 xs1)) []) (wN := (wX2 G h0 a0 q_1.2.2 q_1.2.1 ++ (wI G q1 n1 xs1))) rfl rfl rfl rfl rfl hl.1 (Nat.le_of_ble_eq_true rfl) dX2_rate_45 (fun H locs hPD hS => ?_)
      refine lv_if_eq (tgt := 80) hx hb dX2_rate_48 (by decide) (fun cc1 => ?_) (fun cc1 => ?_)
      · have h := (if_pos cc1).symm.trans h
        refine lv_iinc (v := l4 + 1) (lv' := [(4, .int (l4 + 1)), (0, .ref h0), (1, .int p1), (2, .int p2), (3, .ref q1)]) hx hb dX2_rate_80 hl (k := 4) rfl rfl (by decide) rfl (fun ls hl => ?_)
        refine lv_goto (tgt := 3) hx hb dX2_rate_83 (by decide) ?_
        exact hk3 q_1.2.1 q_1.2.2 (l4 + 1) h _ _ _ hPD hS (lv_sub hl [1, 2, 3, 4, 0] rfl)
      · have h := (if_neg cc1).symm.trans h
        refine lv_aload_n hx hb dX2_rate_51 rfl (lv_at hl 0 rfl) ?_
        refine lv_aload_n hx hb dX2_rate_52 rfl (lv_at hl 0 rfl) ?_
        refine va_get (D := G.1) (ci := 2) (v := .ref (a0 3)) (C := RX2) (T := TX2) (N := 10) hx hb hts inlX2 hown hK hPD.1 0 rfl rfl 3 (by decide) (hts _ gw_182) (fun _ h9 => h9) rfl dX2_rate_53 ?_
        refine lv_iload hx hb dX2_rate_56 (lv_at hl 4 rfl) ?_
        refine kNI (As := [.ref (a0 3), .int l4]) (rest := [.ref h0]) C0 (kt_X9_at l G (a0 3) 16 (q_1.2.1 3) l4 (by decide)) gi_U_X9_at (host := "IdleCrimes") (index := 113) (List.mem_of_getElem? (i := 28) rfl) gw_6 gw_7 (n := 2) rfl (by decide +kernel) ⟨rfl, rfl, Nat.le_of_ble_eq_true rfl, Nat.le_of_ble_eq_true rfl⟩ hPD hS [4] [0, 1, 2, 3, 5, 6, 7, 8] [0, 1, 2, 3, 8, 4, 5, 6, 7] (wr := pick (wX2 G h0 a0 q_1.2.2 q_1.2.1 ++ (wI G q1 n1 xs1)) [0, 1, 2, 3, 5, 6, 7, 8]) (wN := (wX2 G h0 a0 q_1.2.2 q_1.2.1 ++ (wI G q1 n1 xs1))) rfl rfl rfl rfl rfl hl.1 (Nat.le_of_ble_eq_true rfl) dX2_rate_58 (fun H locs hPD hS => ?_)
        refine lv_aload_n hx hb dX2_rate_61 rfl (lv_at hl 0 rfl) ?_
        refine va_get (D := G.1) (ci := 2) (v := .ref (a0 4)) (C := RX2) (T := TX2) (N := 10) hx hb hts inlX2 hown hK hPD.1 0 rfl rfl 4 (by decide) (hts _ gw_183) (fun _ h9 => h9) rfl dX2_rate_62 ?_
        refine lv_iload hx hb dX2_rate_65 (lv_at hl 4 rfl) ?_
        refine kNI (As := [.ref (a0 4), .int l4]) (rest := [.int (f9_at 16 (q_1.2.1 3) l4), .ref h0]) C0 (kt_X9_at l G (a0 4) 16 (q_1.2.1 4) l4 (by decide)) gi_U_X9_at (host := "IdleCrimes") (index := 113) (List.mem_of_getElem? (i := 28) rfl) gw_6 gw_7 (n := 2) rfl (by decide +kernel) ⟨rfl, rfl, Nat.le_of_ble_eq_true rfl, Nat.le_of_ble_eq_true rfl⟩ hPD hS [5] [0, 1, 2, 3, 4, 6, 7, 8] [0, 1, 2, 3, 4, 8, 5, 6, 7] (wr := pick (wX2 G h0 a0 q_1.2.2 q_1.2.1 ++ (wI G q1 n1 xs1)) [0, 1, 2, 3, 4, 6, 7, 8]) (wN := (wX2 G h0 a0 q_1.2.2 q_1.2.1 ++ (wI G q1 n1 xs1))) rfl rfl rfl rfl rfl hl.1 (Nat.le_of_ble_eq_true rfl) dX2_rate_67 (fun H locs hPD hS => ?_)
        refine lv_aload_n hx hb dX2_rate_70 rfl (lv_at hl 3 rfl) ?_
        obtain ⟨q_2, hq_2, h⟩ := ob2 h
        refine kVI (As := [.int (f9_at 16 (q_1.2.1 3) l4), .int (f9_at 16 (q_1.2.1 4) l4), .ref q1]) (rest := []) C0 (kt_X2_reckoned l G h0 a0 q1 q_1.2.2 q_1.2.1 n1 xs1 (f9_at 16 (q_1.2.1 3) l4) (f9_at 16 (q_1.2.1 4) l4) hn1 hq_2) gi_V_X2_117_X2_reckoned (n := 3) rfl (by decide +kernel) rfl ⟨rfl, rfl, Nat.le_of_ble_eq_true rfl, Nat.le_of_ble_eq_true rfl⟩ hPD hS 0 2 rfl rfl rfl [0, 1, 2, 3, 4, 5, 6, 7, 8] [] [0, 1, 2, 3, 4, 5, 6, 7, 8] (wr := pick (wX2 G h0 a0 q_1.2.2 q_1.2.1 ++ (wI G q1 n1 xs1)) []) (wN := (wX2 G h0 a0 q_2.2.2 q_2.2.1 ++ (wI G q1 n1 xs1))) rfl rfl rfl rfl rfl hl.1 (Nat.le_of_ble_eq_true rfl) dX2_rate_71 (fun H locs hPD hS => ?_)
        refine lv_iconst (v := 0) hx hb dX2_rate_74 (by decide) ?_
        refine lv_iload_n hx hb dX2_rate_75 rfl (lv_at hl 2 rfl) ?_
        refine kNI (As := [.int q_2.1, .int 0, .int p2]) (rest := []) C0 (kt_X9_clamp l G  q_2.1 0 p2) gi_U_X9_clamp (host := "IdleCrimes") (index := 121) (List.mem_of_getElem? (i := 29) rfl) gw_6 gw_211 (n := 3) rfl (by decide +kernel) ⟨rfl, rfl, Nat.le_of_ble_eq_true rfl, Nat.le_of_ble_eq_true rfl⟩ hPD hS [] [0, 1, 2, 3, 4, 5, 6, 7, 8] [0, 1, 2, 3, 4, 5, 6, 7, 8] (wr := (wX2 G h0 a0 q_2.2.2 q_2.2.1 ++ (wI G q1 n1 xs1))) (wN := (wX2 G h0 a0 q_2.2.2 q_2.2.1 ++ (wI G q1 n1 xs1))) rfl rfl rfl rfl rfl hl.1 (Nat.le_of_ble_eq_true rfl) dX2_rate_76 (fun H locs hPD hS => ?_)
        obtain rfl := Option.some.inj h
        exact eI C0 hPD.1 hPD.2 hS rfl dX2_rate_79
set_option maxRecDepth 100000 in
set_option maxHeartbeats 4000000 in
theorem ww_f2_rate_l3  (C0 : Cx cX2_rate 5 (some .int) RX2 p s m args meth c G DA) {h0 : Nat} {a0 : Nat → Nat} {q1 : Nat} {n1 : Nat} {xs1 : Nat → Int32} {p1 : Int32} {p2 : Int32} (hn1 : n1 < 2147483648)  {res : Int32 × (Nat → Nat → Int32) × (Nat → Int32)}  : ∀ (n : Nat) (A0 : Nat → Nat → Int32) (f0 : Nat → Int32) (l4 : Int32), f2_rate_l3 n1 xs1 p1 p2  n A0 f0 l4 = some res → ∀ (H : Heap) (locs : List Loc) (ls : Array Slot), WD G DA (wX2 G h0 a0 f0 A0 ++ (wI G q1 n1 xs1)) H → va_S DA s.heap H locs → lv_has ls 5 [(0, .ref h0), (1, .int p1), (2, .int p2), (3, .ref q1), (4, .int l4)] → W p l e rmX2_rate s m args below meth c H locs 0 0 (MQ below (QI G DA res.1 (wX2 G h0 a0 res.2.2 res.2.1 ++ (wI G q1 n1 xs1))) args s 0 0 DA) (F0 m 3 ls []) := by
  intro n
  induction n with
  | zero => intro A0 f0 l4 h; cases h
  | succ n ih => intro A0 f0 l4 h; exact ww_f2_rate_b3 C0 hn1  ih A0 f0 l4 h
set_option maxRecDepth 100000 in
set_option maxHeartbeats 4000000 in
theorem kt_X2_rate (l : Launch) (G : Gp) (h0 : Nat) (a0 : Nat → Nat) (q1 : Nat) (f0 : Nat → Int32) (A0 : Nat → Nat → Int32) (n1 : Nat) (xs1 : Nat → Int32) (p1 : Int32) (p2 : Int32) (hn1 : n1 < 2147483648) : ∀ {r : Int32 × (Nat → Nat → Int32) × (Nat → Int32)}, f2_rate f0 A0 n1 xs1 p1 p2 = some r → CtrI l yX2_rate cX2_rate 5 (some .int) rmX2_rate G [.ref h0, .int p1, .int p2, .ref q1] (wX2 G h0 a0 f0 A0 ++ (wI G q1 n1 xs1)) r.1 (wX2 G h0 a0 r.2.2 r.2.1 ++ (wI G q1 n1 xs1)) := by
  intro res h
  refine ctrI_of (cc := cX2_rate) (maxL := 5) (ret := (some .int)) (by decide +kernel) rfl (Nat.le_of_ble_eq_true rfl) (fun p e s m below meth c DA C0 hP hD ls hl => ?_)
  have hPD : WD G DA (wX2 G h0 a0 f0 A0 ++ (wI G q1 n1 xs1)) s.heap := ⟨hP, hD⟩
  have hS : va_S DA s.heap s.heap [] := va_S.rf
  have hl : lv_has ls 5 [(0, .ref h0), (1, .int p1), (2, .int p2), (3, .ref q1)] := hl
  obtain ⟨hx, hb, hml, hown, hts⟩ := C0.1
  have hK := C0.2.2.2.1
  unfold f2_rate at h
  refine lv_iconst (v := 0) hx hb dX2_rate_0 (by decide) ?_
  refine lv_istore (lv' := [(4, .int 0), (0, .ref h0), (1, .int p1), (2, .int p2), (3, .ref q1)]) hx hb dX2_rate_1 hl (by decide) rfl (fun ls hl => ?_)
  exact ww_f2_rate_l3 C0 hn1 NF A0 f0 0 h _ _ _ hPD hS (lv_sub hl [1, 2, 3, 4, 0] rfl)
abbrev rmX3_isSign : Room := { frames := 0, cells := 0, slots := 0, locals := 0 }
set_option maxRecDepth 100000 in
set_option maxHeartbeats 4000000 in
theorem kt_X3_isSign (l : Launch) (G : Gp) (p0 : Int32) : CtrI l yX3_isSign cX3_isSign 1 (some .boolean) rmX3_isSign G [.int p0] ([] : va_W) (f3_isSign p0) ([] : va_W) := by
  obtain ⟨res, h⟩ : ∃ res, f3_isSign p0 = res := ⟨_, rfl⟩
  rw [h]
  refine ctrI_of (cc := cX3_isSign) (maxL := 1) (ret := (some .boolean)) (by decide +kernel) rfl (Nat.le_of_ble_eq_true rfl) (fun p e s m below meth c DA C0 hP hD ls hl => ?_)
  have hPD : WD G DA ([] : va_W) s.heap := ⟨hP, hD⟩
  have hS : va_S DA s.heap s.heap [] := va_S.rf
  have hl : lv_has ls 1 [(0, .int p0)] := hl
  obtain ⟨hx, hb, hml, hown, hts⟩ := C0.1
  have hK := C0.2.2.2.1
  unfold f3_isSign at h
  refine lv_iload_n hx hb dX3_isSign_0 rfl (lv_at hl 0 rfl) ?_
  refine lv_bipush (v := 43) hx hb dX3_isSign_1 (by decide) ?_
  refine lv_icmp_eq (tgt := 30) hx hb dX3_isSign_3 (by decide) (fun cc1 => ?_) (fun cc1 => ?_)
  · have h := (if_pos cc1).symm.trans h
    refine lv_iconst (v := 1) hx hb dX3_isSign_30 (by decide) ?_
    refine lv_goto (tgt := 35) hx hb dX3_isSign_31 (by decide) ?_
    subst h
    exact eZ C0 hPD.1 hPD.2 hS rfl rfl dX3_isSign_35
  · have h := (if_neg cc1).symm.trans h
    refine lv_iload_n hx hb dX3_isSign_6 rfl (lv_at hl 0 rfl) ?_
    refine lv_bipush (v := 45) hx hb dX3_isSign_7 (by decide) ?_
    refine lv_icmp_eq (tgt := 30) hx hb dX3_isSign_9 (by decide) (fun cc1 => ?_) (fun cc1 => ?_)
    · have h := (if_pos cc1).symm.trans h
      refine lv_iconst (v := 1) hx hb dX3_isSign_30 (by decide) ?_
      refine lv_goto (tgt := 35) hx hb dX3_isSign_31 (by decide) ?_
      subst h
      exact eZ C0 hPD.1 hPD.2 hS rfl rfl dX3_isSign_35
    · have h := (if_neg cc1).symm.trans h
      refine lv_iload_n hx hb dX3_isSign_12 rfl (lv_at hl 0 rfl) ?_
      refine lv_bipush (v := 61) hx hb dX3_isSign_13 (by decide) ?_
      refine lv_icmp_eq (tgt := 30) hx hb dX3_isSign_15 (by decide) (fun cc1 => ?_) (fun cc1 => ?_)
      · have h := (if_pos cc1).symm.trans h
        refine lv_iconst (v := 1) hx hb dX3_isSign_30 (by decide) ?_
        refine lv_goto (tgt := 35) hx hb dX3_isSign_31 (by decide) ?_
        subst h
        exact eZ C0 hPD.1 hPD.2 hS rfl rfl dX3_isSign_35
      · have h := (if_neg cc1).symm.trans h
        refine lv_iload_n hx hb dX3_isSign_18 rfl (lv_at hl 0 rfl) ?_
        refine lv_bipush (v := 38) hx hb dX3_isSign_19 (by decide) ?_
        refine lv_icmp_eq (tgt := 30) hx hb dX3_isSign_21 (by decide) (fun cc1 => ?_) (fun cc1 => ?_)
        · have h := (if_pos cc1).symm.trans h
          refine lv_iconst (v := 1) hx hb dX3_isSign_30 (by decide) ?_
          refine lv_goto (tgt := 35) hx hb dX3_isSign_31 (by decide) ?_
          subst h
          exact eZ C0 hPD.1 hPD.2 hS rfl rfl dX3_isSign_35
        · have h := (if_neg cc1).symm.trans h
          refine lv_iload_n hx hb dX3_isSign_24 rfl (lv_at hl 0 rfl) ?_
          refine lv_bipush (v := 47) hx hb dX3_isSign_25 (by decide) ?_
          refine lv_icmp_ne (tgt := 34) hx hb dX3_isSign_27 (by decide) (fun cc1 => ?_) (fun cc1 => ?_)
          · have h := (if_neg cc1).symm.trans h
            refine lv_iconst (v := 0) hx hb dX3_isSign_34 (by decide) ?_
            subst h
            exact eZ C0 hPD.1 hPD.2 hS rfl rfl dX3_isSign_35
          · have h := (if_pos cc1).symm.trans h
            refine lv_iconst (v := 1) hx hb dX3_isSign_30 (by decide) ?_
            refine lv_goto (tgt := 35) hx hb dX3_isSign_31 (by decide) ?_
            subst h
            exact eZ C0 hPD.1 hPD.2 hS rfl rfl dX3_isSign_35
abbrev rmX3_other : Room := { frames := 3, cells := 0, slots := 0, locals := 64 }
set_option maxRecDepth 100000 in
set_option maxHeartbeats 4000000 in
theorem kt_X3_other (l : Launch) (G : Gp) (h0 : Nat) (a0 : Nat → Nat) (h1 : Nat) (a1 : Nat → Nat) (f0 : Nat → Int32) (A0 : Nat → Nat → Int32) (f1 : Nat → Int32) (A1 : Nat → Nat → Int32) (p2 : Int32) : ∀ {r : Int32 × (Nat → Int32)}, f3_other f0 A0 f1 A1 p2 = some r → CtrI l yX3_other cX3_other 4 (some .int) rmX3_other G [.ref h0, .ref h1, .int p2] (wX7 G h0 a0 f0 A0 ++ (wX1 G h1 a1 f1 A1)) r.1 (wX7 G h0 a0 r.2 A0 ++ (wX1 G h1 a1 f1 A1)) := by
  intro res h
  refine ctrI_of (cc := cX3_other) (maxL := 4) (ret := (some .int)) (by decide +kernel) rfl (Nat.le_of_ble_eq_true rfl) (fun p e s m below meth c DA C0 hP hD ls hl => ?_)
  have hPD : WD G DA (wX7 G h0 a0 f0 A0 ++ (wX1 G h1 a1 f1 A1)) s.heap := ⟨hP, hD⟩
  have hS : va_S DA s.heap s.heap [] := va_S.rf
  have hl : lv_has ls 4 [(0, .ref h0), (1, .ref h1), (2, .int p2)] := hl
  obtain ⟨hx, hb, hml, hown, hts⟩ := C0.1
  have hK := C0.2.2.2.1
  unfold f3_other at h
  refine lv_aload_n hx hb dX3_other_0 rfl (lv_at hl 0 rfl) ?_
  refine kVI (As := []) (rest := []) C0 (kt_X7_look l G h0 a0 f0 A0) gi_V_X3_35_X7_look (n := 0) rfl (by decide +kernel) rfl ⟨rfl, rfl, Nat.le_of_ble_eq_true rfl, Nat.le_of_ble_eq_true rfl⟩ hPD hS 0 7 rfl rfl rfl [0, 1] [2, 3, 4, 5] [4, 5, 0, 1, 2, 3] (wr := (wX1 G h1 a1 f1 A1)) (wN := (wX7 G h0 a0 f0 A0 ++ (wX1 G h1 a1 f1 A1))) rfl rfl rfl rfl rfl hl.1 (Nat.le_of_ble_eq_true rfl) dX3_other_1 (fun H locs hPD hS => ?_)
  refine kSI (As := [.int (f7_look f0 A0)]) (rest := []) C0 (kt_X7_placeOf l G  (f7_look f0 A0)) gi_S_X3_39_X7_placeOf (n := 1) rfl (by decide +kernel) ⟨rfl, rfl, Nat.le_of_ble_eq_true rfl, Nat.le_of_ble_eq_true rfl⟩ hPD hS [] [0, 1, 2, 3, 4, 5] [0, 1, 2, 3, 4, 5] (wr := (wX7 G h0 a0 f0 A0 ++ (wX1 G h1 a1 f1 A1))) (wN := (wX7 G h0 a0 f0 A0 ++ (wX1 G h1 a1 f1 A1))) rfl rfl rfl rfl rfl hl.1 (Nat.le_of_ble_eq_true rfl) dX3_other_4 (fun H locs hPD hS => ?_)
  refine lv_istore_n (lv' := [(3, .int (f7_placeOf (f7_look f0 A0))), (0, .ref h0), (1, .ref h1), (2, .int p2)]) hx hb dX3_other_7 rfl hl (by decide) rfl (fun ls hl => ?_)
  refine lv_iload_n hx hb dX3_other_8 rfl (lv_at hl 0 rfl) ?_
  refine lv_iconst (v := (-1)) hx hb dX3_other_9 (by decide) ?_
  refine lv_icmp_ne (tgt := 21) hx hb dX3_other_10 (by decide) (fun cc1 => ?_) (fun cc1 => ?_)
  · have h := (if_neg cc1).symm.trans h
    refine lv_iload_n hx hb dX3_other_21 rfl (lv_at hl 0 rfl) ?_
    refine lv_iload_n hx hb dX3_other_22 rfl (lv_at hl 3 rfl) ?_
    refine lv_icmp_ne (tgt := 35) hx hb dX3_other_23 (by decide) (fun cc1 => ?_) (fun cc1 => ?_)
    · have h := (if_neg cc1).symm.trans h
      refine lv_aload_n hx hb dX3_other_35 rfl (lv_at hl 2 rfl) ?_
      refine lv_iload_n hx hb dX3_other_36 rfl (lv_at hl 0 rfl) ?_
      refine kVI (As := [.int (f7_placeOf (f7_look f0 A0))]) (rest := []) C0 (kt_X1_isTold l G h1 a1 f1 A1 (f7_placeOf (f7_look f0 A0))) gi_V_X3_47_X1_isTold (n := 1) rfl (by decide +kernel) rfl ⟨rfl, rfl, Nat.le_of_ble_eq_true rfl, Nat.le_of_ble_eq_true rfl⟩ hPD hS 2 1 rfl rfl rfl [2, 3, 4, 5] [0, 1] [0, 1, 2, 3, 4, 5] (wr := (wX7 G h0 a0 f0 A0)) (wN := (wX7 G h0 a0 f0 A0 ++ (wX1 G h1 a1 f1 A1))) rfl rfl rfl rfl rfl hl.1 (Nat.le_of_ble_eq_true rfl) dX3_other_37 (fun H locs hPD hS => ?_)
      refine lv_if_ne (tgt := 52) hx hb dX3_other_40 (by decide) (fun cc1 => ?_) (fun cc1 => ?_)
      · have h := (if_neg cc1).symm.trans h
        refine lv_aload_n hx hb dX3_other_52 rfl (lv_at hl 1 rfl) ?_
        obtain ⟨z_1, ez_1, h⟩ := lvl h
        have kc := kt_X7_step l G h0 a0 f0 A0
        rw [← ez_1] at kc
        clear ez_1
        refine kVV (As := []) (rest := []) C0 (kc) gi_V_X3_56_X7_step (n := 0) rfl (by decide +kernel) rfl ⟨rfl, rfl, Nat.le_of_ble_eq_true rfl, Nat.le_of_ble_eq_true rfl⟩ hPD hS 0 7 rfl rfl rfl [0, 1] [2, 3, 4, 5] [4, 5, 0, 1, 2, 3] (wr := (wX1 G h1 a1 f1 A1)) (wN := (wX7 G h0 a0 z_1 A0 ++ (wX1 G h1 a1 f1 A1))) rfl rfl rfl rfl rfl hl.1 (Nat.le_of_ble_eq_true rfl) dX3_other_53 (fun H locs hPD hS => ?_)
        refine lv_iload_n hx hb dX3_other_56 rfl (lv_at hl 0 rfl) ?_
        obtain rfl := Option.some.inj h
        exact eI C0 hPD.1 hPD.2 hS rfl dX3_other_57
      · have h := (if_pos cc1).symm.trans h
        refine lv_aload_n hx hb dX3_other_43 rfl (lv_at hl 1 rfl) ?_
        refine lv_bipush (v := 7) hx hb dX3_other_44 (by decide) ?_
        obtain ⟨z_2, ez_2, h⟩ := lvl h
        have kc := kt_X7_fail l G h0 a0 f0 A0 7
        rw [← ez_2] at kc
        clear ez_2
        refine kVV (As := [.int 7]) (rest := []) C0 (kc) gi_V_X3_43_X7_fail (n := 1) rfl (by decide +kernel) rfl ⟨rfl, rfl, Nat.le_of_ble_eq_true rfl, Nat.le_of_ble_eq_true rfl⟩ hPD hS 0 7 rfl rfl rfl [0, 1] [2, 3, 4, 5] [4, 5, 0, 1, 2, 3] (wr := (wX1 G h1 a1 f1 A1)) (wN := (wX7 G h0 a0 z_2 A0 ++ (wX1 G h1 a1 f1 A1))) rfl rfl rfl rfl rfl hl.1 (Nat.le_of_ble_eq_true rfl) dX3_other_46 (fun H locs hPD hS => ?_)
        refine lv_goto (tgt := 56) hx hb dX3_other_49 (by decide) ?_
        refine lv_iload_n hx hb dX3_other_56 rfl (lv_at hl 0 rfl) ?_
        obtain rfl := Option.some.inj h
        exact eI C0 hPD.1 hPD.2 hS rfl dX3_other_57
    · have h := (if_pos cc1).symm.trans h
      refine lv_aload_n hx hb dX3_other_26 rfl (lv_at hl 1 rfl) ?_
      refine lv_bipush (v := 6) hx hb dX3_other_27 (by decide) ?_
      obtain ⟨z_3, ez_3, h⟩ := lvl h
      have kc := kt_X7_fail l G h0 a0 f0 A0 6
      rw [← ez_3] at kc
      clear ez_3
      refine kVV (As := [.int 6]) (rest := []) C0 (kc) gi_V_X3_43_X7_fail (n := 1) rfl (by decide +kernel) rfl ⟨rfl, rfl, Nat.le_of_ble_eq_true rfl, Nat.le_of_ble_eq_true rfl⟩ hPD hS 0 7 rfl rfl rfl [0, 1] [2, 3, 4, 5] [4, 5, 0, 1, 2, 3] (wr := (wX1 G h1 a1 f1 A1)) (wN := (wX7 G h0 a0 z_3 A0 ++ (wX1 G h1 a1 f1 A1))) rfl rfl rfl rfl rfl hl.1 (Nat.le_of_ble_eq_true rfl) dX3_other_29 (fun H locs hPD hS => ?_)
      refine lv_goto (tgt := 56) hx hb dX3_other_32 (by decide) ?_
      refine lv_iload_n hx hb dX3_other_56 rfl (lv_at hl 0 rfl) ?_
      obtain rfl := Option.some.inj h
      exact eI C0 hPD.1 hPD.2 hS rfl dX3_other_57
  · have h := (if_pos cc1).symm.trans h
    refine lv_aload_n hx hb dX3_other_13 rfl (lv_at hl 1 rfl) ?_
    refine lv_iconst (v := 1) hx hb dX3_other_14 (by decide) ?_
    obtain ⟨z_4, ez_4, h⟩ := lvl h
    have kc := kt_X7_fail l G h0 a0 f0 A0 1
    rw [← ez_4] at kc
    clear ez_4
    refine kVV (As := [.int 1]) (rest := []) C0 (kc) gi_V_X3_43_X7_fail (n := 1) rfl (by decide +kernel) rfl ⟨rfl, rfl, Nat.le_of_ble_eq_true rfl, Nat.le_of_ble_eq_true rfl⟩ hPD hS 0 7 rfl rfl rfl [0, 1] [2, 3, 4, 5] [4, 5, 0, 1, 2, 3] (wr := (wX1 G h1 a1 f1 A1)) (wN := (wX7 G h0 a0 z_4 A0 ++ (wX1 G h1 a1 f1 A1))) rfl rfl rfl rfl rfl hl.1 (Nat.le_of_ble_eq_true rfl) dX3_other_15 (fun H locs hPD hS => ?_)
    refine lv_goto (tgt := 56) hx hb dX3_other_18 (by decide) ?_
    refine lv_iload_n hx hb dX3_other_56 rfl (lv_at hl 0 rfl) ?_
    obtain rfl := Option.some.inj h
    exact eI C0 hPD.1 hPD.2 hS rfl dX3_other_57
abbrev rmX3_line : Room := { frames := 4, cells := 0, slots := 0, locals := 87 }
set_option maxRecDepth 100000 in
set_option maxHeartbeats 4000000 in
theorem ww_f3_line_b127  (C0 : Cx cX3_line 6 none RX3 p s m args meth c G DA) {h0 : Nat} {a0 : Nat → Nat} {h1 : Nat} {a1 : Nat → Nat} {h2 : Nat} {a2 : Nat → Nat} {A1 : Nat → Nat → Int32} {f2 : Nat → Int32} {A2 : Nat → Nat → Int32}   {res : (Nat → Nat → Int32) × (Nat → Int32) × (Nat → Int32)}  : ∀ (A0 : Nat → Nat → Int32) (f0 : Nat → Int32) (f1 : Nat → Int32) (l3 : Int32) (l4 : Int32) (s0 : Int32), f3_line_b127 A1 f2 A2  A0 f0 f1 l3 l4 s0 = some res → ∀ (H : Heap) (locs : List Loc) (ls : Array Slot), WD G DA (wX3 G h0 a0 f0 A0 ++ (wX7 G h1 a1 f1 A1 ++ (wX1 G h2 a2 f2 A2))) H → va_S DA s.heap H locs → lv_has ls 6 [(0, .ref h0), (1, .ref h1), (2, .ref h2), (3, .int l3), (4, .int l4)] → W p l e rmX3_line s m args below meth c H locs 0 0 (MQ below (QV G DA (wX3 G h0 a0 res.2.1 res.1 ++ (wX7 G h1 a1 res.2.2 A1 ++ (wX1 G h2 a2 f2 A2)))) args s 0 0 DA) (F0 m 127 ls [.int s0]) := by
  obtain ⟨hx, hb, hml, hown, hts⟩ := C0.1
  have hK := C0.2.2.2.1
  intro A0 f0 f1 l3 l4 s0 h _ _ _ hPD hS hl
  unfold f3_line_b127 at h
  refine lv_istore (lv' := [(5, .int s0), (0, .ref h0), (1, .ref h1), (2, .ref h2), (3, .int l3), (4, .int l4)]) hx hb dX3_line_127 hl (by decide) rfl (fun ls hl => ?_)
  refine lv_aload_n hx hb dX3_line_129 rfl (lv_at hl 1 rfl) ?_
  refine va_get (D := G.1) (ci := 3) (v := .ref (a0 0)) (C := RX3) (T := TX3) (N := 4) hx hb hts inlX3 hown hK hPD.1 0 rfl rfl 0 (by decide) (hts _ gw_230) (fun _ h9 => h9) rfl dX3_line_130 ?_
  refine lv_aload_n hx hb dX3_line_133 rfl (lv_at hl 1 rfl) ?_
  refine va_get (D := G.1) (ci := 3) (v := .int (f0 3)) (C := RX3) (T := TX3) (N := 4) hx hb hts inlX3 hown hK hPD.1 0 rfl rfl 3 (by decide) (hts _ gw_221) (fun _ h9 => h9) rfl dX3_line_134 ?_
  refine lv_iload_n hx hb dX3_line_137 rfl (lv_at hl 4 rfl) ?_
  obtain ⟨z_4, ez_4, h⟩ := lvl h
  have kc := kt_X9_put l G (a0 0) 20 (A0 0) (f0 3) l3 (by decide)
  rw [← ez_4] at kc
  clear ez_4
  refine kNV (As := [.ref (a0 0), .int (f0 3), .int l3]) (rest := []) C0 (kc) gi_U_X9_put (host := "IdleCrimes") (index := 69) (List.mem_of_getElem? (i := 17) rfl) gw_6 gw_19 (n := 3) rfl (by decide +kernel) ⟨rfl, rfl, Nat.le_of_ble_eq_true rfl, Nat.le_of_ble_eq_true rfl⟩ hPD hS [1] [0, 2, 3, 4, 5, 6, 7, 8, 9] [0, 9, 1, 2, 3, 4, 5, 6, 7, 8] (wr := pick (wX3 G h0 a0 f0 A0 ++ (wX7 G h1 a1 f1 A1 ++ (wX1 G h2 a2 f2 A2))) [0, 2, 3, 4, 5, 6, 7, 8, 9]) (wN := (wX3 G h0 a0 f0 (updA A0 0 z_4) ++ (wX7 G h1 a1 f1 A1 ++ (wX1 G h2 a2 f2 A2)))) rfl rfl rfl rfl rfl hl.1 (Nat.le_of_ble_eq_true rfl) dX3_line_138 (fun H locs hPD hS => ?_)
  obtain ⟨A0_5, eA0_5, h⟩ := lvl h
  have hPD : WD G DA (wX3 G h0 a0 f0 A0_5 ++ (wX7 G h1 a1 f1 A1 ++ (wX1 G h2 a2 f2 A2))) H := by rw [eA0_5]; exact hPD
  clear eA0_5
  refine lv_aload_n hx hb dX3_line_141 rfl (lv_at hl 1 rfl) ?_
  refine va_get (D := G.1) (ci := 3) (v := .ref (a0 1)) (C := RX3) (T := TX3) (N := 4) hx hb hts inlX3 hown hK hPD.1 0 rfl rfl 1 (by decide) (hts _ gw_231) (fun _ h9 => h9) rfl dX3_line_142 ?_
  refine lv_aload_n hx hb dX3_line_145 rfl (lv_at hl 1 rfl) ?_
  refine va_get (D := G.1) (ci := 3) (v := .int (f0 3)) (C := RX3) (T := TX3) (N := 4) hx hb hts inlX3 hown hK hPD.1 0 rfl rfl 3 (by decide) (hts _ gw_221) (fun _ h9 => h9) rfl dX3_line_146 ?_
  refine lv_iload hx hb dX3_line_149 (lv_at hl 5 rfl) ?_
  obtain ⟨z_6, ez_6, h⟩ := lvl h
  have kc := kt_X9_put l G (a0 1) 20 (A0_5 1) (f0 3) l4 (by decide)
  rw [← ez_6] at kc
  clear ez_6
  refine kNV (As := [.ref (a0 1), .int (f0 3), .int l4]) (rest := []) C0 (kc) gi_U_X9_put (host := "IdleCrimes") (index := 69) (List.mem_of_getElem? (i := 17) rfl) gw_6 gw_19 (n := 3) rfl (by decide +kernel) ⟨rfl, rfl, Nat.le_of_ble_eq_true rfl, Nat.le_of_ble_eq_true rfl⟩ hPD hS [2] [0, 1, 3, 4, 5, 6, 7, 8, 9] [0, 1, 9, 2, 3, 4, 5, 6, 7, 8] (wr := pick (wX3 G h0 a0 f0 A0_5 ++ (wX7 G h1 a1 f1 A1 ++ (wX1 G h2 a2 f2 A2))) [0, 1, 3, 4, 5, 6, 7, 8, 9]) (wN := (wX3 G h0 a0 f0 (updA A0_5 1 z_6) ++ (wX7 G h1 a1 f1 A1 ++ (wX1 G h2 a2 f2 A2)))) rfl rfl rfl rfl rfl hl.1 (Nat.le_of_ble_eq_true rfl) dX3_line_151 (fun H locs hPD hS => ?_)
  obtain ⟨A0_7, eA0_7, h⟩ := lvl h
  have hPD : WD G DA (wX3 G h0 a0 f0 A0_7 ++ (wX7 G h1 a1 f1 A1 ++ (wX1 G h2 a2 f2 A2))) H := by rw [eA0_7]; exact hPD
  clear eA0_7
  refine lv_aload_n hx hb dX3_line_154 rfl (lv_at hl 1 rfl) ?_
  refine va_get (D := G.1) (ci := 3) (v := .ref (a0 2)) (C := RX3) (T := TX3) (N := 4) hx hb hts inlX3 hown hK hPD.1 0 rfl rfl 2 (by decide) (hts _ gw_232) (fun _ h9 => h9) rfl dX3_line_155 ?_
  refine lv_aload_n hx hb dX3_line_158 rfl (lv_at hl 1 rfl) ?_
  refine va_get (D := G.1) (ci := 3) (v := .int (f0 3)) (C := RX3) (T := TX3) (N := 4) hx hb hts inlX3 hown hK hPD.1 0 rfl rfl 3 (by decide) (hts _ gw_221) (fun _ h9 => h9) rfl dX3_line_159 ?_
  refine lv_iload hx hb dX3_line_162 (lv_at hl 0 rfl) ?_
  obtain ⟨z_8, ez_8, h⟩ := lvl h
  have kc := kt_X9_put l G (a0 2) 20 (A0_7 2) (f0 3) s0 (by decide)
  rw [← ez_8] at kc
  clear ez_8
  refine kNV (As := [.ref (a0 2), .int (f0 3), .int s0]) (rest := []) C0 (kc) gi_U_X9_put (host := "IdleCrimes") (index := 69) (List.mem_of_getElem? (i := 17) rfl) gw_6 gw_19 (n := 3) rfl (by decide +kernel) ⟨rfl, rfl, Nat.le_of_ble_eq_true rfl, Nat.le_of_ble_eq_true rfl⟩ hPD hS [3] [0, 1, 2, 4, 5, 6, 7, 8, 9] [0, 1, 2, 9, 3, 4, 5, 6, 7, 8] (wr := pick (wX3 G h0 a0 f0 A0_7 ++ (wX7 G h1 a1 f1 A1 ++ (wX1 G h2 a2 f2 A2))) [0, 1, 2, 4, 5, 6, 7, 8, 9]) (wN := (wX3 G h0 a0 f0 (updA A0_7 2 z_8) ++ (wX7 G h1 a1 f1 A1 ++ (wX1 G h2 a2 f2 A2)))) rfl rfl rfl rfl rfl hl.1 (Nat.le_of_ble_eq_true rfl) dX3_line_164 (fun H locs hPD hS => ?_)
  obtain ⟨A0_9, eA0_9, h⟩ := lvl h
  have hPD : WD G DA (wX3 G h0 a0 f0 A0_9 ++ (wX7 G h1 a1 f1 A1 ++ (wX1 G h2 a2 f2 A2))) H := by rw [eA0_9]; exact hPD
  clear eA0_9
  refine lv_aload_n hx hb dX3_line_167 rfl (lv_at hl 1 rfl) ?_
  refine lv_dup hx hb dX3_line_168 rfl ?_
  refine va_get (D := G.1) (ci := 3) (v := .int (f0 3)) (C := RX3) (T := TX3) (N := 4) hx hb hts inlX3 hown hK hPD.1 0 rfl rfl 3 (by decide) (hts _ gw_221) (fun _ h9 => h9) rfl dX3_line_169 ?_
  refine lv_iconst (v := 1) hx hb dX3_line_172 (by decide) ?_
  refine lv_iadd hx hb dX3_line_173 ?_
  refine va_put (D := G.1) (ci := 3) (v := .int ((f0 3) + 1)) (ty := .int) (C := RX3) (T := TX3) (N := 4) hx hb hts inlX3 tyX3 tyX3_ok nmX3 hown hK hPD.1 hPD.2 hS 0 rfl rfl 3 (by decide) (hts _ gw_221) (fun _ h9 => h9) rfl (by decide +kernel) rfl rfl (Nat.le_of_ble_eq_true rfl) dX3_line_174 (fun H locs hP hD hS => ?_)
  obtain ⟨f0_10, ef0_10, h⟩ := lvl h
  have hPD : WD G DA (wX3 G h0 a0 f0_10 A0_9 ++ (wX7 G h1 a1 f1 A1 ++ (wX1 G h2 a2 f2 A2))) H := by rw [ef0_10]; exact ⟨hP, hD⟩
  clear ef0_10 hP hD
  obtain rfl := Option.some.inj h
  exact eV C0 hPD.1 hPD.2 hS dX3_line_177
set_option maxRecDepth 100000 in
set_option maxHeartbeats 4000000 in
theorem ww_f3_line_b102  (C0 : Cx cX3_line 6 none RX3 p s m args meth c G DA) {h0 : Nat} {a0 : Nat → Nat} {h1 : Nat} {a1 : Nat → Nat} {h2 : Nat} {a2 : Nat → Nat} {A1 : Nat → Nat → Int32} {f2 : Nat → Int32} {A2 : Nat → Nat → Int32}   {res : (Nat → Nat → Int32) × (Nat → Int32) × (Nat → Int32)}  : ∀ (A0 : Nat → Nat → Int32) (f0 : Nat → Int32) (f1 : Nat → Int32) (l3 : Int32) (l4 : Int32), f3_line_b102 A1 f2 A2  A0 f0 f1 l3 l4 = some res → ∀ (H : Heap) (locs : List Loc) (ls : Array Slot), WD G DA (wX3 G h0 a0 f0 A0 ++ (wX7 G h1 a1 f1 A1 ++ (wX1 G h2 a2 f2 A2))) H → va_S DA s.heap H locs → lv_has ls 6 [(0, .ref h0), (1, .ref h1), (2, .ref h2), (3, .int l3), (4, .int l4)] → W p l e rmX3_line s m args below meth c H locs 0 0 (MQ below (QV G DA (wX3 G h0 a0 res.2.1 res.1 ++ (wX7 G h1 a1 res.2.2 A1 ++ (wX1 G h2 a2 f2 A2)))) args s 0 0 DA) (F0 m 102 ls []) := by
  obtain ⟨hx, hb, hml, hown, hts⟩ := C0.1
  have hK := C0.2.2.2.1
  intro A0 f0 f1 l3 l4 h _ _ _ hPD hS hl
  unfold f3_line_b102 at h
  refine lv_aload_n hx hb dX3_line_102 rfl (lv_at hl 1 rfl) ?_
  refine lv_aload_n hx hb dX3_line_103 rfl (lv_at hl 2 rfl) ?_
  refine lv_iload_n hx hb dX3_line_104 rfl (lv_at hl 3 rfl) ?_
  obtain ⟨q_3, hq_3, h⟩ := ob2 h
  refine kSI (As := [.ref h1, .ref h2, .int l3]) (rest := []) C0 (kt_X3_other l G h1 a1 h2 a2 f1 A1 f2 A2 l3 hq_3) gi_S_X3_62_X3_other (n := 3) rfl (by decide +kernel) ⟨rfl, rfl, Nat.le_of_ble_eq_true rfl, Nat.le_of_ble_eq_true rfl⟩ hPD hS [4, 5, 6, 7, 8, 9] [0, 1, 2, 3] [0, 1, 2, 3, 4, 5, 6, 7, 8, 9] (wr := (wX3 G h0 a0 f0 A0)) (wN := (wX3 G h0 a0 f0 A0 ++ (wX7 G h1 a1 q_3.2 A1 ++ (wX1 G h2 a2 f2 A2)))) rfl rfl rfl rfl rfl hl.1 (Nat.le_of_ble_eq_true rfl) dX3_line_105 (fun H locs hPD hS => ?_)
  refine lv_goto (tgt := 127) hx hb dX3_line_108 (by decide) ?_
  exact ww_f3_line_b127 C0 A0 f0 q_3.2 l3 l4 q_3.1 h _ _ _ hPD hS (lv_sub hl [0, 1, 2, 3, 4] rfl)
end WALK
