section WALK
variable {p : Program} {l : Launch} {e : Env} {s : State} {m : MethodId} {args : Array Value} {below : List Frame} {meth : Method} {c : Code} {G : Gp} {DA : Nat → Prop}
abbrev rmX3_read : Room := { frames := 5, cells := 0, slots := 0, locals := 112 }
set_option maxRecDepth 100000 in
set_option maxHeartbeats 4000000 in
theorem ww_f3_read_b10  (C0 : Cx cX3_read 5 none RX3 p s m args meth c G DA) {h0 : Nat} {a0 : Nat → Nat} {h1 : Nat} {a1 : Nat → Nat} {h2 : Nat} {a2 : Nat → Nat} {A1 : Nat → Nat → Int32} {f2 : Nat → Int32} {A2 : Nat → Nat → Int32}  {k10 : (Nat → Nat → Int32) → (Nat → Int32) → (Nat → Int32) → Int32 → Int32 → Option ((Nat → Nat → Int32) × (Nat → Int32) × (Nat → Int32))} {res : (Nat → Nat → Int32) × (Nat → Int32) × (Nat → Int32)}  (hk10 : ∀ (A0 : Nat → Nat → Int32) (f0 : Nat → Int32) (f1 : Nat → Int32) (l3 : Int32) (l4 : Int32), k10 A0 f0 f1 l3 l4 = some res → ∀ (H : Heap) (locs : List Loc) (ls : Array Slot), WD G DA (wX3 G h0 a0 f0 A0 ++ (wX7 G h1 a1 f1 A1 ++ (wX1 G h2 a2 f2 A2))) H → va_S DA s.heap H locs → lv_has ls 5 [(0, .ref h0), (1, .ref h1), (2, .ref h2), (3, .int l3), (4, .int l4)] → W p l e rmX3_read s m args below meth c H locs 0 0 (MQ below (QV G DA (wX3 G h0 a0 res.2.1 res.1 ++ (wX7 G h1 a1 res.2.2 A1 ++ (wX1 G h2 a2 f2 A2)))) args s 0 0 DA) (F0 m 10 ls [])) : ∀ (A0 : Nat → Nat → Int32) (f0 : Nat → Int32) (f1 : Nat → Int32) (l3 : Int32) (l4 : Int32), f3_read_b10 A1 f2 A2  k10 A0 f0 f1 l3 l4 = some res → ∀ (H : Heap) (locs : List Loc) (ls : Array Slot), WD G DA (wX3 G h0 a0 f0 A0 ++ (wX7 G h1 a1 f1 A1 ++ (wX1 G h2 a2 f2 A2))) H → va_S DA s.heap H locs → lv_has ls 5 [(0, .ref h0), (1, .ref h1), (2, .ref h2), (3, .int l3), (4, .int l4)] → W p l e rmX3_read s m args below meth c H locs 0 0 (MQ below (QV G DA (wX3 G h0 a0 res.2.1 res.1 ++ (wX7 G h1 a1 res.2.2 A1 ++ (wX1 G h2 a2 f2 A2)))) args s 0 0 DA) (F0 m 10 ls []) := by
  obtain ⟨hx, hb, hml, hown, hts⟩ := C0.1
  have hK := C0.2.2.2.1
  intro A0 f0 f1 l3 l4 h _ _ _ hPD hS hl
  unfold f3_read_b10 at h
  refine lv_iload_n hx hb dX3_read_10 rfl (lv_at hl 3 rfl) ?_
  refine lv_if_eq (tgt := 38) hx hb dX3_read_11 (by decide) (fun cc1 => ?_) (fun cc1 => ?_)
  · have h := (if_pos cc1).symm.trans h
    obtain rfl := Option.some.inj h
    exact eV C0 hPD.1 hPD.2 hS dX3_read_38
  · have h := (if_neg cc1).symm.trans h
    refine lv_iload hx hb dX3_read_14 (lv_at hl 4 rfl) ?_
    refine lv_bipush (v := 120) hx hb dX3_read_16 (by decide) ?_
    refine lv_icmp_ge (tgt := 38) hx hb dX3_read_18 (by decide) (fun cc1 => ?_) (fun cc1 => ?_)
    · have h := (if_pos cc1).symm.trans h
      obtain rfl := Option.some.inj h
      exact eV C0 hPD.1 hPD.2 hS dX3_read_38
    · have h := (if_neg cc1).symm.trans h
      refine lv_aload_n hx hb dX3_read_21 rfl (lv_at hl 0 rfl) ?_
      refine lv_aload_n hx hb dX3_read_22 rfl (lv_at hl 1 rfl) ?_
      refine lv_aload_n hx hb dX3_read_23 rfl (lv_at hl 2 rfl) ?_
      obtain ⟨q_2, hq_2, h⟩ := ob2 h
      refine kVV (As := [.ref h1, .ref h2]) (rest := []) C0 (kt_X3_line l G h0 a0 h1 a1 h2 a2 f0 A0 f1 A1 f2 A2 hq_2) gi_V_X3_25_X3_line (n := 2) rfl (by decide +kernel) rfl ⟨rfl, rfl, Nat.le_of_ble_eq_true rfl, Nat.le_of_ble_eq_true rfl⟩ hPD hS 0 3 rfl rfl rfl [0, 1, 2, 3, 4, 5, 6, 7, 8, 9] [] [0, 1, 2, 3, 4, 5, 6, 7, 8, 9] (wN := (wX3 G h0 a0 q_2.2.1 q_2.1 ++ (wX7 G h1 a1 q_2.2.2 A1 ++ (wX1 G h2 a2 f2 A2)))) rfl rfl rfl rfl rfl hl.1 (Nat.le_of_ble_eq_true rfl) dX3_read_24 (fun H locs hPD hS => ?_)
      refine lv_aload_n hx hb dX3_read_27 rfl (lv_at hl 1 rfl) ?_
      obtain ⟨q_3, hq_3, h⟩ := ob2 h
      refine kVI (As := []) (rest := []) C0 (kt_X7_goesOn l G h1 a1 q_2.2.2 A1 hq_3) gi_V_X3_29_X7_goesOn (n := 0) rfl (by decide +kernel) rfl ⟨rfl, rfl, Nat.le_of_ble_eq_true rfl, Nat.le_of_ble_eq_true rfl⟩ hPD hS 4 7 rfl rfl rfl [4, 5] [0, 1, 2, 3, 6, 7, 8, 9] [0, 1, 2, 3, 8, 9, 4, 5, 6, 7] (wN := (wX3 G h0 a0 q_2.2.1 q_2.1 ++ (wX7 G h1 a1 q_3.2 A1 ++ (wX1 G h2 a2 f2 A2)))) rfl rfl rfl rfl rfl hl.1 (Nat.le_of_ble_eq_true rfl) dX3_read_28 (fun H locs hPD hS => ?_)
      refine lv_istore_n (lv' := [(3, .int q_3.1), (0, .ref h0), (1, .ref h1), (2, .ref h2), (4, .int l4)]) hx hb dX3_read_31 rfl hl (by decide) rfl (fun ls hl => ?_)
      refine lv_iinc (v := l4 + 1) (lv' := [(4, .int (l4 + 1)), (3, .int q_3.1), (0, .ref h0), (1, .ref h1), (2, .ref h2)]) hx hb dX3_read_32 hl (k := 4) rfl rfl (by decide) rfl (fun ls hl => ?_)
      refine lv_goto (tgt := 10) hx hb dX3_read_35 (by decide) ?_
      exact hk10 q_2.1 q_2.2.1 q_3.2 q_3.1 (l4 + 1) h _ _ _ hPD hS (lv_sub hl [2, 3, 4, 1, 0] rfl)
set_option maxRecDepth 100000 in
set_option maxHeartbeats 4000000 in
theorem ww_f3_read_l10  (C0 : Cx cX3_read 5 none RX3 p s m args meth c G DA) {h0 : Nat} {a0 : Nat → Nat} {h1 : Nat} {a1 : Nat → Nat} {h2 : Nat} {a2 : Nat → Nat} {A1 : Nat → Nat → Int32} {f2 : Nat → Int32} {A2 : Nat → Nat → Int32}   {res : (Nat → Nat → Int32) × (Nat → Int32) × (Nat → Int32)}  : ∀ (n : Nat) (A0 : Nat → Nat → Int32) (f0 : Nat → Int32) (f1 : Nat → Int32) (l3 : Int32) (l4 : Int32), f3_read_l10 A1 f2 A2  n A0 f0 f1 l3 l4 = some res → ∀ (H : Heap) (locs : List Loc) (ls : Array Slot), WD G DA (wX3 G h0 a0 f0 A0 ++ (wX7 G h1 a1 f1 A1 ++ (wX1 G h2 a2 f2 A2))) H → va_S DA s.heap H locs → lv_has ls 5 [(0, .ref h0), (1, .ref h1), (2, .ref h2), (3, .int l3), (4, .int l4)] → W p l e rmX3_read s m args below meth c H locs 0 0 (MQ below (QV G DA (wX3 G h0 a0 res.2.1 res.1 ++ (wX7 G h1 a1 res.2.2 A1 ++ (wX1 G h2 a2 f2 A2)))) args s 0 0 DA) (F0 m 10 ls []) := by
  intro n
  induction n with
  | zero => intro A0 f0 f1 l3 l4 h; cases h
  | succ n ih => intro A0 f0 f1 l3 l4 h; exact ww_f3_read_b10 C0  ih A0 f0 f1 l3 l4 h
set_option maxRecDepth 100000 in
set_option maxHeartbeats 4000000 in
theorem kt_X3_read (l : Launch) (G : Gp) (h0 : Nat) (a0 : Nat → Nat) (h1 : Nat) (a1 : Nat → Nat) (h2 : Nat) (a2 : Nat → Nat) (f0 : Nat → Int32) (A0 : Nat → Nat → Int32) (f1 : Nat → Int32) (A1 : Nat → Nat → Int32) (f2 : Nat → Int32) (A2 : Nat → Nat → Int32) : ∀ {r : (Nat → Nat → Int32) × (Nat → Int32) × (Nat → Int32)}, f3_read f0 A0 f1 A1 f2 A2 = some r → CtrV l yX3_read cX3_read 5 none rmX3_read G [.ref h0, .ref h1, .ref h2] (wX3 G h0 a0 f0 A0 ++ (wX7 G h1 a1 f1 A1 ++ (wX1 G h2 a2 f2 A2))) (wX3 G h0 a0 r.2.1 r.1 ++ (wX7 G h1 a1 r.2.2 A1 ++ (wX1 G h2 a2 f2 A2))) := by
  intro res h
  refine ctrV_of (cc := cX3_read) (maxL := 5) (ret := none) (by decide +kernel) rfl (Nat.le_of_ble_eq_true rfl) (fun p e s m below meth c DA C0 hP hD ls hl => ?_)
  have hPD : WD G DA (wX3 G h0 a0 f0 A0 ++ (wX7 G h1 a1 f1 A1 ++ (wX1 G h2 a2 f2 A2))) s.heap := ⟨hP, hD⟩
  have hS : va_S DA s.heap s.heap [] := va_S.rf
  have hl : lv_has ls 5 [(0, .ref h0), (1, .ref h1), (2, .ref h2)] := hl
  obtain ⟨hx, hb, hml, hown, hts⟩ := C0.1
  have hK := C0.2.2.2.1
  unfold f3_read at h
  refine lv_aload_n hx hb dX3_read_0 rfl (lv_at hl 0 rfl) ?_
  refine lv_iconst (v := 0) hx hb dX3_read_1 (by decide) ?_
  refine va_put (D := G.1) (ci := 3) (v := .int 0) (ty := .int) (C := RX3) (T := TX3) (N := 4) hx hb hts inlX3 tyX3 tyX3_ok nmX3 hown hK hPD.1 hPD.2 hS 0 rfl rfl 3 (by decide) (hts _ gw_224) (fun _ h9 => h9) rfl (by decide +kernel) rfl rfl (Nat.le_of_ble_eq_true rfl) dX3_read_2 (fun H locs hP hD hS => ?_)
  obtain ⟨f0_1, ef0_1, h⟩ := lvl h
  have hPD : WD G DA (wX3 G h0 a0 f0_1 A0 ++ (wX7 G h1 a1 f1 A1 ++ (wX1 G h2 a2 f2 A2))) H := by rw [ef0_1]; exact ⟨hP, hD⟩
  clear ef0_1 hP hD
  refine lv_iconst (v := 1) hx hb dX3_read_5 (by decide) ?_
  refine lv_istore_n (lv' := [(3, .int 1), (0, .ref h0), (1, .ref h1), (2, .ref h2)]) hx hb dX3_read_6 rfl hl (by decide) rfl (fun ls hl => ?_)
  refine lv_iconst (v := 0) hx hb dX3_read_7 (by decide) ?_
  refine lv_istore (lv' := [(4, .int 0), (3, .int 1), (0, .ref h0), (1, .ref h1), (2, .ref h2)]) hx hb dX3_read_8 hl (by decide) rfl (fun ls hl => ?_)
  exact ww_f3_read_l10 C0 NF A0 f0_1 f1 1 0 h _ _ _ hPD hS (lv_sub hl [2, 3, 4, 1, 0] rfl)
abbrev rmX3_grant : Room := { frames := 2, cells := 0, slots := 0, locals := 44 }
set_option maxRecDepth 100000 in
set_option maxHeartbeats 4000000 in
theorem ww_f3_grant_b2  (C0 : Cx cX3_grant 7 none RX3 p s m args meth c G DA) {h0 : Nat} {a0 : Nat → Nat} {h1 : Nat} {a1 : Nat → Nat} {h2 : Nat} {a2 : Nat → Nat} {f0 : Nat → Int32} {A0 : Nat → Nat → Int32} {f1 : Nat → Int32} {f2 : Nat → Int32}  {k2 : (Nat → Nat → Int32) → (Nat → Nat → Int32) → Int32 → Option ((Nat → Nat → Int32) × (Nat → Nat → Int32))} {res : (Nat → Nat → Int32) × (Nat → Nat → Int32)}  (hk2 : ∀ (A1 : Nat → Nat → Int32) (A2 : Nat → Nat → Int32) (l3 : Int32), k2 A1 A2 l3 = some res → ∀ (H : Heap) (locs : List Loc) (ls : Array Slot), WD G DA (wX3 G h0 a0 f0 A0 ++ (wX6 G h1 a1 f1 A1 ++ (wX1 G h2 a2 f2 A2))) H → va_S DA s.heap H locs → lv_has ls 7 [(0, .ref h0), (1, .ref h1), (2, .ref h2), (3, .int l3)] → W p l e rmX3_grant s m args below meth c H locs 0 0 (MQ below (QV G DA (wX3 G h0 a0 f0 A0 ++ (wX6 G h1 a1 f1 res.1 ++ (wX1 G h2 a2 f2 res.2)))) args s 0 0 DA) (F0 m 2 ls [])) : ∀ (A1 : Nat → Nat → Int32) (A2 : Nat → Nat → Int32) (l3 : Int32), f3_grant_b2 f0 A0 f1 f2  k2 A1 A2 l3 = some res → ∀ (H : Heap) (locs : List Loc) (ls : Array Slot), WD G DA (wX3 G h0 a0 f0 A0 ++ (wX6 G h1 a1 f1 A1 ++ (wX1 G h2 a2 f2 A2))) H → va_S DA s.heap H locs → lv_has ls 7 [(0, .ref h0), (1, .ref h1), (2, .ref h2), (3, .int l3)] → W p l e rmX3_grant s m args below meth c H locs 0 0 (MQ below (QV G DA (wX3 G h0 a0 f0 A0 ++ (wX6 G h1 a1 f1 res.1 ++ (wX1 G h2 a2 f2 res.2)))) args s 0 0 DA) (F0 m 2 ls []) := by
  obtain ⟨hx, hb, hml, hown, hts⟩ := C0.1
  have hK := C0.2.2.2.1
  intro A1 A2 l3 h _ _ _ hPD hS hl
  unfold f3_grant_b2 at h
  refine lv_iload_n hx hb dX3_grant_2 rfl (lv_at hl 3 rfl) ?_
  refine lv_aload_n hx hb dX3_grant_3 rfl (lv_at hl 0 rfl) ?_
  refine va_get (D := G.1) (ci := 3) (v := .int (f0 3)) (C := RX3) (T := TX3) (N := 4) hx hb hts inlX3 hown hK hPD.1 0 rfl rfl 3 (by decide) (hts _ gw_224) (fun _ h9 => h9) rfl dX3_grant_4 ?_
  refine lv_icmp_ge (tgt := 177) hx hb dX3_grant_7 (by decide) (fun cc1 => ?_) (fun cc1 => ?_)
  · have h := (if_pos cc1).symm.trans h
    obtain rfl := Option.some.inj h
    exact eV C0 hPD.1 hPD.2 hS dX3_grant_177
  · have h := (if_neg cc1).symm.trans h
    refine lv_aload_n hx hb dX3_grant_10 rfl (lv_at hl 0 rfl) ?_
    refine va_get (D := G.1) (ci := 3) (v := .ref (a0 0)) (C := RX3) (T := TX3) (N := 4) hx hb hts inlX3 hown hK hPD.1 0 rfl rfl 0 (by decide) (hts _ gw_233) (fun _ h9 => h9) rfl dX3_grant_11 ?_
    refine lv_iload_n hx hb dX3_grant_14 rfl (lv_at hl 3 rfl) ?_
    refine kNI (As := [.ref (a0 0), .int l3]) (rest := []) C0 (kt_X9_at l G (a0 0) 20 (A0 0) l3 (by decide)) gi_U_X9_at (host := "IdleCrimes") (index := 73) (List.mem_of_getElem? (i := 18) rfl) gw_6 gw_7 (n := 2) rfl (by decide +kernel) ⟨rfl, rfl, Nat.le_of_ble_eq_true rfl, Nat.le_of_ble_eq_true rfl⟩ hPD hS [1] [0, 2, 3, 4, 5, 6, 7, 8, 9, 10, 11, 12, 13] [0, 13, 1, 2, 3, 4, 5, 6, 7, 8, 9, 10, 11, 12] (wN := (wX3 G h0 a0 f0 A0 ++ (wX6 G h1 a1 f1 A1 ++ (wX1 G h2 a2 f2 A2)))) rfl rfl rfl rfl rfl hl.1 (Nat.le_of_ble_eq_true rfl) dX3_grant_15 (fun H locs hPD hS => ?_)
    refine lv_istore (lv' := [(4, .int (f9_at 20 (A0 0) l3)), (0, .ref h0), (1, .ref h1), (2, .ref h2), (3, .int l3)]) hx hb dX3_grant_18 hl (by decide) rfl (fun ls hl => ?_)
    refine lv_aload_n hx hb dX3_grant_20 rfl (lv_at hl 1 rfl) ?_
    refine va_get (D := G.1) (ci := 3) (v := .ref (a0 2)) (C := RX3) (T := TX3) (N := 4) hx hb hts inlX3 hown hK hPD.1 0 rfl rfl 2 (by decide) (hts _ gw_235) (fun _ h9 => h9) rfl dX3_grant_21 ?_
    refine lv_iload_n hx hb dX3_grant_24 rfl (lv_at hl 4 rfl) ?_
    refine kNI (As := [.ref (a0 2), .int l3]) (rest := []) C0 (kt_X9_at l G (a0 2) 20 (A0 2) l3 (by decide)) gi_U_X9_at (host := "IdleCrimes") (index := 73) (List.mem_of_getElem? (i := 18) rfl) gw_6 gw_7 (n := 2) rfl (by decide +kernel) ⟨rfl, rfl, Nat.le_of_ble_eq_true rfl, Nat.le_of_ble_eq_true rfl⟩ hPD hS [3] [0, 1, 2, 4, 5, 6, 7, 8, 9, 10, 11, 12, 13] [0, 1, 2, 13, 3, 4, 5, 6, 7, 8, 9, 10, 11, 12] (wN := (wX3 G h0 a0 f0 A0 ++ (wX6 G h1 a1 f1 A1 ++ (wX1 G h2 a2 f2 A2)))) rfl rfl rfl rfl rfl hl.1 (Nat.le_of_ble_eq_true rfl) dX3_grant_25 (fun H locs hPD hS => ?_)
    refine lv_istore (lv' := [(5, .int (f9_at 20 (A0 2) l3)), (4, .int (f9_at 20 (A0 0) l3)), (0, .ref h0), (1, .ref h1), (2, .ref h2), (3, .int l3)]) hx hb dX3_grant_28 hl (by decide) rfl (fun ls hl => ?_)
    refine lv_aload_n hx hb dX3_grant_30 rfl (lv_at hl 3 rfl) ?_
    refine va_get (D := G.1) (ci := 6) (v := .ref (a1 0)) (C := RX6) (T := TX6) (N := 10) hx hb hts inlX6 hown hK hPD.1 4 rfl rfl 0 (by decide) (hts _ gw_242) (fun _ h9 => h9) rfl dX3_grant_31 ?_
    refine lv_iload hx hb dX3_grant_34 (lv_at hl 1 rfl) ?_
    refine kNI (As := [.ref (a1 0), .int (f9_at 20 (A0 0) l3)]) (rest := []) C0 (kt_X9_at l G (a1 0) 16 (A1 0) (f9_at 20 (A0 0) l3) (by decide)) gi_U_X9_at (host := "IdleCrimes") (index := 73) (List.mem_of_getElem? (i := 18) rfl) gw_6 gw_7 (n := 2) rfl (by decide +kernel) ⟨rfl, rfl, Nat.le_of_ble_eq_true rfl, Nat.le_of_ble_eq_true rfl⟩ hPD hS [5] [0, 1, 2, 3, 4, 6, 7, 8, 9, 10, 11, 12, 13] [0, 1, 2, 3, 4, 13, 5, 6, 7, 8, 9, 10, 11, 12] (wN := (wX3 G h0 a0 f0 A0 ++ (wX6 G h1 a1 f1 A1 ++ (wX1 G h2 a2 f2 A2)))) rfl rfl rfl rfl rfl hl.1 (Nat.le_of_ble_eq_true rfl) dX3_grant_36 (fun H locs hPD hS => ?_)
    refine lv_istore (lv' := [(6, .int (f9_at 16 (A1 0) (f9_at 20 (A0 0) l3))), (5, .int (f9_at 20 (A0 2) l3)), (4, .int (f9_at 20 (A0 0) l3)), (0, .ref h0), (1, .ref h1), (2, .ref h2), (3, .int l3)]) hx hb dX3_grant_39 hl (by decide) rfl (fun ls hl => ?_)
    refine lv_aload_n hx hb dX3_grant_41 rfl (lv_at hl 3 rfl) ?_
    refine va_get (D := G.1) (ci := 3) (v := .ref (a0 1)) (C := RX3) (T := TX3) (N := 4) hx hb hts inlX3 hown hK hPD.1 0 rfl rfl 1 (by decide) (hts _ gw_234) (fun _ h9 => h9) rfl dX3_grant_42 ?_
    refine lv_iload_n hx hb dX3_grant_45 rfl (lv_at hl 6 rfl) ?_
    refine kNI (As := [.ref (a0 1), .int l3]) (rest := []) C0 (kt_X9_at l G (a0 1) 20 (A0 1) l3 (by decide)) gi_U_X9_at (host := "IdleCrimes") (index := 73) (List.mem_of_getElem? (i := 18) rfl) gw_6 gw_7 (n := 2) rfl (by decide +kernel) ⟨rfl, rfl, Nat.le_of_ble_eq_true rfl, Nat.le_of_ble_eq_true rfl⟩ hPD hS [2] [0, 1, 3, 4, 5, 6, 7, 8, 9, 10, 11, 12, 13] [0, 1, 13, 2, 3, 4, 5, 6, 7, 8, 9, 10, 11, 12] (wN := (wX3 G h0 a0 f0 A0 ++ (wX6 G h1 a1 f1 A1 ++ (wX1 G h2 a2 f2 A2)))) rfl rfl rfl rfl rfl hl.1 (Nat.le_of_ble_eq_true rfl) dX3_grant_46 (fun H locs hPD hS => ?_)
    by_cases cc38 : (f9_at 20 (A0 1) l3) = 38
    · have h := (if_pos cc38).symm.trans h
      refine lv_swL (tgt := 152) (k := 38) hx hb dX3_grant_49 cc38 (by decide) (by decide) (by decide) ?_
      refine lv_aload_n hx hb dX3_grant_152 rfl (lv_at hl 5 rfl) ?_
      refine lv_iload hx hb dX3_grant_153 (lv_at hl 2 rfl) ?_
      refine lv_iload hx hb dX3_grant_155 (lv_at hl 1 rfl) ?_
      obtain ⟨z_1, ez_1, h⟩ := lvl h
      have kc := kt_X1_join l G h2 a2 f2 A2 (f9_at 20 (A0 0) l3) (f9_at 20 (A0 2) l3)
      rw [← ez_1] at kc
      clear ez_1
      refine kVV (As := [.int (f9_at 20 (A0 0) l3), .int (f9_at 20 (A0 2) l3)]) (rest := []) C0 (kc) gi_V_X3_89_X1_join (n := 2) rfl (by decide +kernel) rfl ⟨rfl, rfl, Nat.le_of_ble_eq_true rfl, Nat.le_of_ble_eq_true rfl⟩ hPD hS 10 1 rfl rfl rfl [10, 11, 12, 13] [0, 1, 2, 3, 4, 5, 6, 7, 8, 9] [0, 1, 2, 3, 4, 5, 6, 7, 8, 9, 10, 11, 12, 13] (wN := (wX3 G h0 a0 f0 A0 ++ (wX6 G h1 a1 f1 A1 ++ (wX1 G h2 a2 f2 z_1)))) rfl rfl rfl rfl rfl hl.1 (Nat.le_of_ble_eq_true rfl) dX3_grant_157 (fun H locs hPD hS => ?_)
      refine lv_goto (tgt := 171) hx hb dX3_grant_160 (by decide) ?_
      refine lv_iinc (v := l3 + 1) (lv' := [(3, .int (l3 + 1)), (6, .int (f9_at 16 (A1 0) (f9_at 20 (A0 0) l3))), (5, .int (f9_at 20 (A0 2) l3)), (4, .int (f9_at 20 (A0 0) l3)), (0, .ref h0), (1, .ref h1), (2, .ref h2)]) hx hb dX3_grant_171 hl (k := 6) rfl rfl (by decide) rfl (fun ls hl => ?_)
      refine lv_goto (tgt := 2) hx hb dX3_grant_174 (by decide) ?_
      exact hk2 A1 z_1 (l3 + 1) h _ _ _ hPD hS (lv_sub hl [4, 5, 6, 0] rfl)
    have h := (if_neg cc38).symm.trans h
    by_cases cc43 : (f9_at 20 (A0 1) l3) = 43
    · have h := (if_pos cc43).symm.trans h
      refine lv_swL (tgt := 92) (k := 43) hx hb dX3_grant_49 cc43 (by decide) (by decide) (by decide) ?_
      refine lv_aload_n hx hb dX3_grant_92 rfl (lv_at hl 4 rfl) ?_
      refine va_get (D := G.1) (ci := 6) (v := .ref (a1 0)) (C := RX6) (T := TX6) (N := 10) hx hb hts inlX6 hown hK hPD.1 4 rfl rfl 0 (by decide) (hts _ gw_242) (fun _ h9 => h9) rfl dX3_grant_93 ?_
      refine lv_iload hx hb dX3_grant_96 (lv_at hl 2 rfl) ?_
      refine lv_iload hx hb dX3_grant_98 (lv_at hl 0 rfl) ?_
      refine lv_iload hx hb dX3_grant_100 (lv_at hl 1 rfl) ?_
      refine lv_iadd hx hb dX3_grant_102 ?_
      refine lv_iconst (v := 0) hx hb dX3_grant_103 (by decide) ?_
      refine lv_bipush (v := 99) hx hb dX3_grant_104 (by decide) ?_
      refine kNI (As := [.int ((f9_at 16 (A1 0) (f9_at 20 (A0 0) l3)) + (f9_at 20 (A0 2) l3)), .int 0, .int 99]) (rest := [.int (f9_at 20 (A0 0) l3), .ref (a1 0)]) C0 (kt_X9_clamp l G  ((f9_at 16 (A1 0) (f9_at 20 (A0 0) l3)) + (f9_at 20 (A0 2) l3)) 0 99) gi_U_X9_clamp (host := "IdleCrimes") (index := 82) (List.mem_of_getElem? (i := 19) rfl) gw_6 gw_214 (n := 3) rfl (by decide +kernel) ⟨rfl, rfl, Nat.le_of_ble_eq_true rfl, Nat.le_of_ble_eq_true rfl⟩ hPD hS [] [0, 1, 2, 3, 4, 5, 6, 7, 8, 9, 10, 11, 12, 13] [0, 1, 2, 3, 4, 5, 6, 7, 8, 9, 10, 11, 12, 13] (wN := (wX3 G h0 a0 f0 A0 ++ (wX6 G h1 a1 f1 A1 ++ (wX1 G h2 a2 f2 A2)))) rfl rfl rfl rfl rfl hl.1 (Nat.le_of_ble_eq_true rfl) dX3_grant_106 (fun H locs hPD hS => ?_)
      obtain ⟨z_2, ez_2, h⟩ := lvl h
      have kc := kt_X9_put l G (a1 0) 16 (A1 0) (f9_at 20 (A0 0) l3) (f9_clamp ((f9_at 16 (A1 0) (f9_at 20 (A0 0) l3)) + (f9_at 20 (A0 2) l3)) 0 99) (by decide)
      rw [← ez_2] at kc
      clear ez_2
      refine kNV (As := [.ref (a1 0), .int (f9_at 20 (A0 0) l3), .int (f9_clamp ((f9_at 16 (A1 0) (f9_at 20 (A0 0) l3)) + (f9_at 20 (A0 2) l3)) 0 99)]) (rest := []) C0 (kc) gi_U_X9_put (host := "IdleCrimes") (index := 69) (List.mem_of_getElem? (i := 17) rfl) gw_6 gw_19 (n := 3) rfl (by decide +kernel) ⟨rfl, rfl, Nat.le_of_ble_eq_true rfl, Nat.le_of_ble_eq_true rfl⟩ hPD hS [5] [0, 1, 2, 3, 4, 6, 7, 8, 9, 10, 11, 12, 13] [0, 1, 2, 3, 4, 13, 5, 6, 7, 8, 9, 10, 11, 12] (wN := (wX3 G h0 a0 f0 A0 ++ (wX6 G h1 a1 f1 (updA A1 0 z_2) ++ (wX1 G h2 a2 f2 A2)))) rfl rfl rfl rfl rfl hl.1 (Nat.le_of_ble_eq_true rfl) dX3_grant_109 (fun H locs hPD hS => ?_)
      obtain ⟨A1_3, eA1_3, h⟩ := lvl h
      have hPD : WD G DA (wX3 G h0 a0 f0 A0 ++ (wX6 G h1 a1 f1 A1_3 ++ (wX1 G h2 a2 f2 A2))) H := by rw [eA1_3]; exact hPD
      clear eA1_3
      refine lv_goto (tgt := 171) hx hb dX3_grant_112 (by decide) ?_
      refine lv_iinc (v := l3 + 1) (lv' := [(3, .int (l3 + 1)), (6, .int (f9_at 16 (A1 0) (f9_at 20 (A0 0) l3))), (5, .int (f9_at 20 (A0 2) l3)), (4, .int (f9_at 20 (A0 0) l3)), (0, .ref h0), (1, .ref h1), (2, .ref h2)]) hx hb dX3_grant_171 hl (k := 6) rfl rfl (by decide) rfl (fun ls hl => ?_)
      refine lv_goto (tgt := 2) hx hb dX3_grant_174 (by decide) ?_
      exact hk2 A1_3 A2 (l3 + 1) h _ _ _ hPD hS (lv_sub hl [4, 5, 6, 0] rfl)
    have h := (if_neg cc43).symm.trans h
    by_cases cc45 : (f9_at 20 (A0 1) l3) = 45
    · have h := (if_pos cc45).symm.trans h
      refine lv_swL (tgt := 115) (k := 45) hx hb dX3_grant_49 cc45 (by decide) (by decide) (by decide) ?_
      refine lv_aload_n hx hb dX3_grant_115 rfl (lv_at hl 4 rfl) ?_
      refine va_get (D := G.1) (ci := 6) (v := .ref (a1 0)) (C := RX6) (T := TX6) (N := 10) hx hb hts inlX6 hown hK hPD.1 4 rfl rfl 0 (by decide) (hts _ gw_242) (fun _ h9 => h9) rfl dX3_grant_116 ?_
      refine lv_iload hx hb dX3_grant_119 (lv_at hl 2 rfl) ?_
      refine lv_iload hx hb dX3_grant_121 (lv_at hl 0 rfl) ?_
      refine lv_iload hx hb dX3_grant_123 (lv_at hl 1 rfl) ?_
      refine lv_isub hx hb dX3_grant_125 ?_
      refine lv_iconst (v := 0) hx hb dX3_grant_126 (by decide) ?_
      refine lv_bipush (v := 99) hx hb dX3_grant_127 (by decide) ?_
      refine kNI (As := [.int ((f9_at 16 (A1 0) (f9_at 20 (A0 0) l3)) - (f9_at 20 (A0 2) l3)), .int 0, .int 99]) (rest := [.int (f9_at 20 (A0 0) l3), .ref (a1 0)]) C0 (kt_X9_clamp l G  ((f9_at 16 (A1 0) (f9_at 20 (A0 0) l3)) - (f9_at 20 (A0 2) l3)) 0 99) gi_U_X9_clamp (host := "IdleCrimes") (index := 82) (List.mem_of_getElem? (i := 19) rfl) gw_6 gw_214 (n := 3) rfl (by decide +kernel) ⟨rfl, rfl, Nat.le_of_ble_eq_true rfl, Nat.le_of_ble_eq_true rfl⟩ hPD hS [] [0, 1, 2, 3, 4, 5, 6, 7, 8, 9, 10, 11, 12, 13] [0, 1, 2, 3, 4, 5, 6, 7, 8, 9, 10, 11, 12, 13] (wN := (wX3 G h0 a0 f0 A0 ++ (wX6 G h1 a1 f1 A1 ++ (wX1 G h2 a2 f2 A2)))) rfl rfl rfl rfl rfl hl.1 (Nat.le_of_ble_eq_true rfl) dX3_grant_129 (fun H locs hPD hS => ?_)
      obtain ⟨z_4, ez_4, h⟩ := lvl h
      have kc := kt_X9_put l G (a1 0) 16 (A1 0) (f9_at 20 (A0 0) l3) (f9_clamp ((f9_at 16 (A1 0) (f9_at 20 (A0 0) l3)) - (f9_at 20 (A0 2) l3)) 0 99) (by decide)
      rw [← ez_4] at kc
      clear ez_4
      refine kNV (As := [.ref (a1 0), .int (f9_at 20 (A0 0) l3), .int (f9_clamp ((f9_at 16 (A1 0) (f9_at 20 (A0 0) l3)) - (f9_at 20 (A0 2) l3)) 0 99)]) (rest := []) C0 (kc) gi_U_X9_put (host := "IdleCrimes") (index := 69) (List.mem_of_getElem? (i := 17) rfl) gw_6 gw_19 (n := 3) rfl (by decide +kernel) ⟨rfl, rfl, Nat.le_of_ble_eq_true rfl, Nat.le_of_ble_eq_true rfl⟩ hPD hS [5] [0, 1, 2, 3, 4, 6, 7, 8, 9, 10, 11, 12, 13] [0, 1, 2, 3, 4, 13, 5, 6, 7, 8, 9, 10, 11, 12] (wN := (wX3 G h0 a0 f0 A0 ++ (wX6 G h1 a1 f1 (updA A1 0 z_4) ++ (wX1 G h2 a2 f2 A2)))) rfl rfl rfl rfl rfl hl.1 (Nat.le_of_ble_eq_true rfl) dX3_grant_132 (fun H locs hPD hS => ?_)
      obtain ⟨A1_5, eA1_5, h⟩ := lvl h
      have hPD : WD G DA (wX3 G h0 a0 f0 A0 ++ (wX6 G h1 a1 f1 A1_5 ++ (wX1 G h2 a2 f2 A2))) H := by rw [eA1_5]; exact hPD
      clear eA1_5
      refine lv_goto (tgt := 171) hx hb dX3_grant_135 (by decide) ?_
      refine lv_iinc (v := l3 + 1) (lv' := [(3, .int (l3 + 1)), (6, .int (f9_at 16 (A1 0) (f9_at 20 (A0 0) l3))), (5, .int (f9_at 20 (A0 2) l3)), (4, .int (f9_at 20 (A0 0) l3)), (0, .ref h0), (1, .ref h1), (2, .ref h2)]) hx hb dX3_grant_171 hl (k := 6) rfl rfl (by decide) rfl (fun ls hl => ?_)
      refine lv_goto (tgt := 2) hx hb dX3_grant_174 (by decide) ?_
      exact hk2 A1_5 A2 (l3 + 1) h _ _ _ hPD hS (lv_sub hl [4, 5, 6, 0] rfl)
    have h := (if_neg cc45).symm.trans h
    by_cases cc61 : (f9_at 20 (A0 1) l3) = 61
    · have h := (if_pos cc61).symm.trans h
      refine lv_swL (tgt := 138) (k := 61) hx hb dX3_grant_49 cc61 (by decide) (by decide) (by decide) ?_
      refine lv_aload_n hx hb dX3_grant_138 rfl (lv_at hl 4 rfl) ?_
      refine va_get (D := G.1) (ci := 6) (v := .ref (a1 1)) (C := RX6) (T := TX6) (N := 10) hx hb hts inlX6 hown hK hPD.1 4 rfl rfl 1 (by decide) (hts _ gw_244) (fun _ h9 => h9) rfl dX3_grant_139 ?_
      refine lv_iload hx hb dX3_grant_142 (lv_at hl 2 rfl) ?_
      refine lv_iload hx hb dX3_grant_144 (lv_at hl 1 rfl) ?_
      obtain ⟨z_6, ez_6, h⟩ := lvl h
      have kc := kt_X9_put l G (a1 1) 16 (A1 1) (f9_at 20 (A0 0) l3) (f9_at 20 (A0 2) l3) (by decide)
      rw [← ez_6] at kc
      clear ez_6
      refine kNV (As := [.ref (a1 1), .int (f9_at 20 (A0 0) l3), .int (f9_at 20 (A0 2) l3)]) (rest := []) C0 (kc) gi_U_X9_put (host := "IdleCrimes") (index := 69) (List.mem_of_getElem? (i := 17) rfl) gw_6 gw_19 (n := 3) rfl (by decide +kernel) ⟨rfl, rfl, Nat.le_of_ble_eq_true rfl, Nat.le_of_ble_eq_true rfl⟩ hPD hS [6] [0, 1, 2, 3, 4, 5, 7, 8, 9, 10, 11, 12, 13] [0, 1, 2, 3, 4, 5, 13, 6, 7, 8, 9, 10, 11, 12] (wN := (wX3 G h0 a0 f0 A0 ++ (wX6 G h1 a1 f1 (updA A1 1 z_6) ++ (wX1 G h2 a2 f2 A2)))) rfl rfl rfl rfl rfl hl.1 (Nat.le_of_ble_eq_true rfl) dX3_grant_146 (fun H locs hPD hS => ?_)
      obtain ⟨A1_7, eA1_7, h⟩ := lvl h
      have hPD : WD G DA (wX3 G h0 a0 f0 A0 ++ (wX6 G h1 a1 f1 A1_7 ++ (wX1 G h2 a2 f2 A2))) H := by rw [eA1_7]; exact hPD
      clear eA1_7
      refine lv_goto (tgt := 171) hx hb dX3_grant_149 (by decide) ?_
      refine lv_iinc (v := l3 + 1) (lv' := [(3, .int (l3 + 1)), (6, .int (f9_at 16 (A1 0) (f9_at 20 (A0 0) l3))), (5, .int (f9_at 20 (A0 2) l3)), (4, .int (f9_at 20 (A0 0) l3)), (0, .ref h0), (1, .ref h1), (2, .ref h2)]) hx hb dX3_grant_171 hl (k := 6) rfl rfl (by decide) rfl (fun ls hl => ?_)
      refine lv_goto (tgt := 2) hx hb dX3_grant_174 (by decide) ?_
      exact hk2 A1_7 A2 (l3 + 1) h _ _ _ hPD hS (lv_sub hl [4, 5, 6, 0] rfl)
    have h := (if_neg cc61).symm.trans h
    refine lv_swLD (tgt := 163) (ks := [38, 43, 45, 61]) hx hb dX3_grant_49 (by decide) (by decide) ⟨cc38, cc43, cc45, cc61, trivial⟩ (by decide) ?_
    refine lv_aload_n hx hb dX3_grant_163 rfl (lv_at hl 5 rfl) ?_
    refine lv_iload hx hb dX3_grant_164 (lv_at hl 2 rfl) ?_
    refine lv_iload hx hb dX3_grant_166 (lv_at hl 1 rfl) ?_
    obtain ⟨z_8, ez_8, h⟩ := lvl h
    have kc := kt_X1_part l G h2 a2 f2 A2 (f9_at 20 (A0 0) l3) (f9_at 20 (A0 2) l3)
    rw [← ez_8] at kc
    clear ez_8
    refine kVV (As := [.int (f9_at 20 (A0 0) l3), .int (f9_at 20 (A0 2) l3)]) (rest := []) C0 (kc) gi_V_X3_93_X1_part (n := 2) rfl (by decide +kernel) rfl ⟨rfl, rfl, Nat.le_of_ble_eq_true rfl, Nat.le_of_ble_eq_true rfl⟩ hPD hS 10 1 rfl rfl rfl [10, 11, 12, 13] [0, 1, 2, 3, 4, 5, 6, 7, 8, 9] [0, 1, 2, 3, 4, 5, 6, 7, 8, 9, 10, 11, 12, 13] (wN := (wX3 G h0 a0 f0 A0 ++ (wX6 G h1 a1 f1 A1 ++ (wX1 G h2 a2 f2 z_8)))) rfl rfl rfl rfl rfl hl.1 (Nat.le_of_ble_eq_true rfl) dX3_grant_168 (fun H locs hPD hS => ?_)
    refine lv_iinc (v := l3 + 1) (lv' := [(3, .int (l3 + 1)), (6, .int (f9_at 16 (A1 0) (f9_at 20 (A0 0) l3))), (5, .int (f9_at 20 (A0 2) l3)), (4, .int (f9_at 20 (A0 0) l3)), (0, .ref h0), (1, .ref h1), (2, .ref h2)]) hx hb dX3_grant_171 hl (k := 6) rfl rfl (by decide) rfl (fun ls hl => ?_)
    refine lv_goto (tgt := 2) hx hb dX3_grant_174 (by decide) ?_
    exact hk2 A1 z_8 (l3 + 1) h _ _ _ hPD hS (lv_sub hl [4, 5, 6, 0] rfl)
set_option maxRecDepth 100000 in
set_option maxHeartbeats 4000000 in
theorem ww_f3_grant_l2  (C0 : Cx cX3_grant 7 none RX3 p s m args meth c G DA) {h0 : Nat} {a0 : Nat → Nat} {h1 : Nat} {a1 : Nat → Nat} {h2 : Nat} {a2 : Nat → Nat} {f0 : Nat → Int32} {A0 : Nat → Nat → Int32} {f1 : Nat → Int32} {f2 : Nat → Int32}   {res : (Nat → Nat → Int32) × (Nat → Nat → Int32)}  : ∀ (n : Nat) (A1 : Nat → Nat → Int32) (A2 : Nat → Nat → Int32) (l3 : Int32), f3_grant_l2 f0 A0 f1 f2  n A1 A2 l3 = some res → ∀ (H : Heap) (locs : List Loc) (ls : Array Slot), WD G DA (wX3 G h0 a0 f0 A0 ++ (wX6 G h1 a1 f1 A1 ++ (wX1 G h2 a2 f2 A2))) H → va_S DA s.heap H locs → lv_has ls 7 [(0, .ref h0), (1, .ref h1), (2, .ref h2), (3, .int l3)] → W p l e rmX3_grant s m args below meth c H locs 0 0 (MQ below (QV G DA (wX3 G h0 a0 f0 A0 ++ (wX6 G h1 a1 f1 res.1 ++ (wX1 G h2 a2 f2 res.2)))) args s 0 0 DA) (F0 m 2 ls []) := by
  intro n
  induction n with
  | zero => intro A1 A2 l3 h; cases h
  | succ n ih => intro A1 A2 l3 h; exact ww_f3_grant_b2 C0  ih A1 A2 l3 h
set_option maxRecDepth 100000 in
set_option maxHeartbeats 4000000 in
theorem kt_X3_grant (l : Launch) (G : Gp) (h0 : Nat) (a0 : Nat → Nat) (h1 : Nat) (a1 : Nat → Nat) (h2 : Nat) (a2 : Nat → Nat) (f0 : Nat → Int32) (A0 : Nat → Nat → Int32) (f1 : Nat → Int32) (A1 : Nat → Nat → Int32) (f2 : Nat → Int32) (A2 : Nat → Nat → Int32) : ∀ {r : (Nat → Nat → Int32) × (Nat → Nat → Int32)}, f3_grant f0 A0 f1 A1 f2 A2 = some r → CtrV l yX3_grant cX3_grant 7 none rmX3_grant G [.ref h0, .ref h1, .ref h2] (wX3 G h0 a0 f0 A0 ++ (wX6 G h1 a1 f1 A1 ++ (wX1 G h2 a2 f2 A2))) (wX3 G h0 a0 f0 A0 ++ (wX6 G h1 a1 f1 r.1 ++ (wX1 G h2 a2 f2 r.2))) := by
  intro res h
  refine ctrV_of (cc := cX3_grant) (maxL := 7) (ret := none) (by decide +kernel) rfl (Nat.le_of_ble_eq_true rfl) (fun p e s m below meth c DA C0 hP hD ls hl => ?_)
  have hPD : WD G DA (wX3 G h0 a0 f0 A0 ++ (wX6 G h1 a1 f1 A1 ++ (wX1 G h2 a2 f2 A2))) s.heap := ⟨hP, hD⟩
  have hS : va_S DA s.heap s.heap [] := va_S.rf
  have hl : lv_has ls 7 [(0, .ref h0), (1, .ref h1), (2, .ref h2)] := hl
  obtain ⟨hx, hb, hml, hown, hts⟩ := C0.1
  have hK := C0.2.2.2.1
  unfold f3_grant at h
  refine lv_iconst (v := 0) hx hb dX3_grant_0 (by decide) ?_
  refine lv_istore_n (lv' := [(3, .int 0), (0, .ref h0), (1, .ref h1), (2, .ref h2)]) hx hb dX3_grant_1 rfl hl (by decide) rfl (fun ls hl => ?_)
  exact ww_f3_grant_l2 C0 NF A1 A2 0 h _ _ _ hPD hS (lv_sub hl [1, 2, 3, 0] rfl)
abbrev rmX4_freeWatches : Room := { frames := 1, cells := 0, slots := 0, locals := 21 }
set_option maxRecDepth 100000 in
set_option maxHeartbeats 4000000 in
theorem ww_f4_freeWatches_b5  (C0 : Cx cX4_freeWatches 5 (some .int) RX4 p s m args meth c G DA) {q0 : Nat} {n0 : Nat} {xs0 : Nat → Int32} {p1 : Int32} {p2 : Int32} (hn0 : n0 < 2147483648) {k5 : Int32 → Int32 → Option (Int32)} {res : Int32}  (hk5 : ∀ (l3 : Int32) (l4 : Int32), k5 l3 l4 = some res → ∀ (H : Heap) (locs : List Loc) (ls : Array Slot), WD G DA (wI G q0 n0 xs0) H → va_S DA s.heap H locs → lv_has ls 5 [(0, .ref q0), (1, .int p1), (2, .int p2), (3, .int l3), (4, .int l4)] → W p l e rmX4_freeWatches s m args below meth c H locs 0 0 (MQ below (QI G DA res (wI G q0 n0 xs0)) args s 0 0 DA) (F0 m 5 ls [])) : ∀ (l3 : Int32) (l4 : Int32), f4_freeWatches_b5 n0 xs0 p1 p2  k5 l3 l4 = some res → ∀ (H : Heap) (locs : List Loc) (ls : Array Slot), WD G DA (wI G q0 n0 xs0) H → va_S DA s.heap H locs → lv_has ls 5 [(0, .ref q0), (1, .int p1), (2, .int p2), (3, .int l3), (4, .int l4)] → W p l e rmX4_freeWatches s m args below meth c H locs 0 0 (MQ below (QI G DA res (wI G q0 n0 xs0)) args s 0 0 DA) (F0 m 5 ls []) := by
  obtain ⟨hx, hb, hml, hown, hts⟩ := C0.1
  have hK := C0.2.2.2.1
  intro l3 l4 h _ _ _ hPD hS hl
  unfold f4_freeWatches_b5 at h
  refine lv_iload hx hb dX4_freeWatches_5 (lv_at hl 4 rfl) ?_
  refine lv_iload_n hx hb dX4_freeWatches_7 rfl (lv_at hl 2 rfl) ?_
  refine lv_icmp_ge (tgt := 31) hx hb dX4_freeWatches_8 (by decide) (fun cc1 => ?_) (fun cc1 => ?_)
  · have h := (if_pos cc1).symm.trans h
    refine lv_iload_n hx hb dX4_freeWatches_31 rfl (lv_at hl 3 rfl) ?_
    obtain rfl := Option.some.inj h
    exact eI C0 hPD.1 hPD.2 hS rfl dX4_freeWatches_32
  · have h := (if_neg cc1).symm.trans h
    refine lv_aload_n hx hb dX4_freeWatches_11 rfl (lv_at hl 0 rfl) ?_
    refine lv_iload hx hb dX4_freeWatches_12 (lv_at hl 4 rfl) ?_
    refine kNI (As := [.ref q0, .int l4]) (rest := []) C0 (kt_X9_at l G q0 n0 xs0 l4 hn0) gi_U_X9_at (host := "IdleCrimes") (index := 36) (List.mem_of_getElem? (i := 41) rfl) gw_6 gw_7 (n := 2) rfl (by decide +kernel) ⟨rfl, rfl, Nat.le_of_ble_eq_true rfl, Nat.le_of_ble_eq_true rfl⟩ hPD hS [0] [] [0] (wN := (wI G q0 n0 xs0)) rfl rfl rfl rfl rfl hl.1 (Nat.le_of_ble_eq_true rfl) dX4_freeWatches_14 (fun H locs hPD hS => ?_)
    refine lv_iload_n hx hb dX4_freeWatches_17 rfl (lv_at hl 1 rfl) ?_
    refine lv_iand hx hb dX4_freeWatches_18 ?_
    refine lv_if_ne (tgt := 25) hx hb dX4_freeWatches_19 (by decide) (fun cc1 => ?_) (fun cc1 => ?_)
    · have h := (if_neg cc1).symm.trans h
      refine lv_iinc (v := l4 + 1) (lv' := [(4, .int (l4 + 1)), (0, .ref q0), (1, .int p1), (2, .int p2), (3, .int l3)]) hx hb dX4_freeWatches_25 hl (k := 4) rfl rfl (by decide) rfl (fun ls hl => ?_)
      refine lv_goto (tgt := 5) hx hb dX4_freeWatches_28 (by decide) ?_
      exact hk5 l3 (l4 + 1) h _ _ _ hPD hS (lv_sub hl [1, 2, 3, 4, 0] rfl)
    · have h := (if_pos cc1).symm.trans h
      refine lv_iinc (v := l3 + 1) (lv' := [(3, .int (l3 + 1)), (0, .ref q0), (1, .int p1), (2, .int p2), (4, .int l4)]) hx hb dX4_freeWatches_22 hl (k := 3) rfl rfl (by decide) rfl (fun ls hl => ?_)
      refine lv_iinc (v := l4 + 1) (lv' := [(4, .int (l4 + 1)), (3, .int (l3 + 1)), (0, .ref q0), (1, .int p1), (2, .int p2)]) hx hb dX4_freeWatches_25 hl (k := 4) rfl rfl (by decide) rfl (fun ls hl => ?_)
      refine lv_goto (tgt := 5) hx hb dX4_freeWatches_28 (by decide) ?_
      exact hk5 (l3 + 1) (l4 + 1) h _ _ _ hPD hS (lv_sub hl [2, 3, 4, 1, 0] rfl)
set_option maxRecDepth 100000 in
set_option maxHeartbeats 4000000 in
theorem ww_f4_freeWatches_l5  (C0 : Cx cX4_freeWatches 5 (some .int) RX4 p s m args meth c G DA) {q0 : Nat} {n0 : Nat} {xs0 : Nat → Int32} {p1 : Int32} {p2 : Int32} (hn0 : n0 < 2147483648)  {res : Int32}  : ∀ (n : Nat) (l3 : Int32) (l4 : Int32), f4_freeWatches_l5 n0 xs0 p1 p2  n l3 l4 = some res → ∀ (H : Heap) (locs : List Loc) (ls : Array Slot), WD G DA (wI G q0 n0 xs0) H → va_S DA s.heap H locs → lv_has ls 5 [(0, .ref q0), (1, .int p1), (2, .int p2), (3, .int l3), (4, .int l4)] → W p l e rmX4_freeWatches s m args below meth c H locs 0 0 (MQ below (QI G DA res (wI G q0 n0 xs0)) args s 0 0 DA) (F0 m 5 ls []) := by
  intro n
  induction n with
  | zero => intro l3 l4 h; cases h
  | succ n ih => intro l3 l4 h; exact ww_f4_freeWatches_b5 C0 hn0  ih l3 l4 h
set_option maxRecDepth 100000 in
set_option maxHeartbeats 4000000 in
theorem kt_X4_freeWatches (l : Launch) (G : Gp) (q0 : Nat) (n0 : Nat) (xs0 : Nat → Int32) (p1 : Int32) (p2 : Int32) (hn0 : n0 < 2147483648) : ∀ {r : Int32}, f4_freeWatches n0 xs0 p1 p2 = some r → CtrI l yX4_freeWatches cX4_freeWatches 5 (some .int) rmX4_freeWatches G [.ref q0, .int p1, .int p2] (wI G q0 n0 xs0) r (wI G q0 n0 xs0) := by
  intro res h
  refine ctrI_of (cc := cX4_freeWatches) (maxL := 5) (ret := (some .int)) (by decide +kernel) rfl (Nat.le_of_ble_eq_true rfl) (fun p e s m below meth c DA C0 hP hD ls hl => ?_)
  have hPD : WD G DA (wI G q0 n0 xs0) s.heap := ⟨hP, hD⟩
  have hS : va_S DA s.heap s.heap [] := va_S.rf
  have hl : lv_has ls 5 [(0, .ref q0), (1, .int p1), (2, .int p2)] := hl
  obtain ⟨hx, hb, hml, hown, hts⟩ := C0.1
  have hK := C0.2.2.2.1
  unfold f4_freeWatches at h
  refine lv_iconst (v := 0) hx hb dX4_freeWatches_0 (by decide) ?_
  refine lv_istore_n (lv' := [(3, .int 0), (0, .ref q0), (1, .int p1), (2, .int p2)]) hx hb dX4_freeWatches_1 rfl hl (by decide) rfl (fun ls hl => ?_)
  refine lv_iconst (v := 0) hx hb dX4_freeWatches_2 (by decide) ?_
  refine lv_istore (lv' := [(4, .int 0), (3, .int 0), (0, .ref q0), (1, .int p1), (2, .int p2)]) hx hb dX4_freeWatches_3 hl (by decide) rfl (fun ls hl => ?_)
  exact ww_f4_freeWatches_l5 C0 hn0 NF 0 0 h _ _ _ hPD hS (lv_sub hl [2, 3, 4, 1, 0] rfl)
abbrev rmX4_tightest : Room := { frames := 3, cells := 0, slots := 0, locals := 64 }
set_option maxRecDepth 100000 in
set_option maxHeartbeats 4000000 in
theorem ww_f4_tightest_b13  (C0 : Cx cX4_tightest 8 (some .int) RX4 p s m args meth c G DA) {q0 : Nat} {q1 : Nat} {n0 : Nat} {xs0 : Nat → Int32} {n1 : Nat} {xs1 : Nat → Int32} {p2 : Int32} {p3 : Int32} (hn0 : n0 < 2147483648) (hn1 : n1 < 2147483648) {k13 : Int32 → Int32 → Int32 → Option (Int32)} {res : Int32}  (hk13 : ∀ (l4 : Int32) (l5 : Int32) (l6 : Int32), k13 l4 l5 l6 = some res → ∀ (H : Heap) (locs : List Loc) (ls : Array Slot), WD G DA (wI G q0 n0 xs0 ++ (wI G q1 n1 xs1)) H → va_S DA s.heap H locs → lv_has ls 8 [(0, .ref q0), (1, .ref q1), (2, .int p2), (3, .int p3), (4, .int l4), (5, .int l5), (6, .int l6)] → W p l e rmX4_tightest s m args below meth c H locs 0 0 (MQ below (QI G DA res (wI G q0 n0 xs0 ++ (wI G q1 n1 xs1))) args s 0 0 DA) (F0 m 13 ls [])) : ∀ (l4 : Int32) (l5 : Int32) (l6 : Int32), f4_tightest_b13 n0 xs0 n1 xs1 p2 p3  k13 l4 l5 l6 = some res → ∀ (H : Heap) (locs : List Loc) (ls : Array Slot), WD G DA (wI G q0 n0 xs0 ++ (wI G q1 n1 xs1)) H → va_S DA s.heap H locs → lv_has ls 8 [(0, .ref q0), (1, .ref q1), (2, .int p2), (3, .int p3), (4, .int l4), (5, .int l5), (6, .int l6)] → W p l e rmX4_tightest s m args below meth c H locs 0 0 (MQ below (QI G DA res (wI G q0 n0 xs0 ++ (wI G q1 n1 xs1))) args s 0 0 DA) (F0 m 13 ls []) := by
  obtain ⟨hx, hb, hml, hown, hts⟩ := C0.1
  have hK := C0.2.2.2.1
  intro l4 l5 l6 h _ _ _ hPD hS hl
  unfold f4_tightest_b13 at h
  refine lv_iload hx hb dX4_tightest_13 (lv_at hl 6 rfl) ?_
  refine lv_bipush (v := 16) hx hb dX4_tightest_15 (by decide) ?_
  refine lv_icmp_ge (tgt := 63) hx hb dX4_tightest_17 (by decide) (fun cc1 => ?_) (fun cc1 => ?_)
  · have h := (if_pos cc1).symm.trans h
    refine lv_iload hx hb dX4_tightest_63 (lv_at hl 4 rfl) ?_
    obtain rfl := Option.some.inj h
    exact eI C0 hPD.1 hPD.2 hS rfl dX4_tightest_65
  · have h := (if_neg cc1).symm.trans h
    refine lv_iload_n hx hb dX4_tightest_20 rfl (lv_at hl 2 rfl) ?_
    refine lv_iload hx hb dX4_tightest_21 (lv_at hl 6 rfl) ?_
    refine kNI (As := [.int p2, .int l6]) (rest := []) C0 (kt_X9_has l G  p2 l6) gi_U_X9_has (host := "IdleCrimes") (index := 28) (List.mem_of_getElem? (i := 40) rfl) gw_6 gw_73 (n := 2) rfl (by decide +kernel) ⟨rfl, rfl, Nat.le_of_ble_eq_true rfl, Nat.le_of_ble_eq_true rfl⟩ hPD hS [] [0, 1] [0, 1] (wN := (wI G q0 n0 xs0 ++ (wI G q1 n1 xs1))) rfl rfl rfl rfl rfl hl.1 (Nat.le_of_ble_eq_true rfl) dX4_tightest_23 (fun H locs hPD hS => ?_)
    refine lv_if_eq (tgt := 57) hx hb dX4_tightest_26 (by decide) (fun cc1 => ?_) (fun cc1 => ?_)
    · have h := (if_pos cc1).symm.trans h
      refine lv_iinc (v := l6 + 1) (lv' := [(6, .int (l6 + 1)), (0, .ref q0), (1, .ref q1), (2, .int p2), (3, .int p3), (4, .int l4), (5, .int l5)]) hx hb dX4_tightest_57 hl (k := 6) rfl rfl (by decide) rfl (fun ls hl => ?_)
      refine lv_goto (tgt := 13) hx hb dX4_tightest_60 (by decide) ?_
      exact hk13 l4 l5 (l6 + 1) h _ _ _ hPD hS (lv_sub hl [1, 2, 3, 4, 5, 6, 0] rfl)
    · have h := (if_neg cc1).symm.trans h
      refine lv_aload_n hx hb dX4_tightest_29 rfl (lv_at hl 0 rfl) ?_
      refine lv_aload_n hx hb dX4_tightest_30 rfl (lv_at hl 1 rfl) ?_
      refine lv_iload hx hb dX4_tightest_31 (lv_at hl 6 rfl) ?_
      refine kNI (As := [.ref q1, .int l6]) (rest := [.ref q0]) C0 (kt_X9_at l G q1 n1 xs1 l6 hn1) gi_U_X9_at (host := "IdleCrimes") (index := 36) (List.mem_of_getElem? (i := 41) rfl) gw_6 gw_7 (n := 2) rfl (by decide +kernel) ⟨rfl, rfl, Nat.le_of_ble_eq_true rfl, Nat.le_of_ble_eq_true rfl⟩ hPD hS [1] [0] [0, 1] (wN := (wI G q0 n0 xs0 ++ (wI G q1 n1 xs1))) rfl rfl rfl rfl rfl hl.1 (Nat.le_of_ble_eq_true rfl) dX4_tightest_33 (fun H locs hPD hS => ?_)
      refine lv_iload_n hx hb dX4_tightest_36 rfl (lv_at hl 3 rfl) ?_
      obtain ⟨q_2, hq_2, h⟩ := ob2 h
      refine kSI (As := [.ref q0, .int (f9_at n1 xs1 l6), .int p3]) (rest := []) C0 (kt_X4_freeWatches l G q0 n0 xs0 (f9_at n1 xs1 l6) p3 hn0 hq_2) gi_S_X4_52_X4_freeWatches (n := 3) rfl (by decide +kernel) ⟨rfl, rfl, Nat.le_of_ble_eq_true rfl, Nat.le_of_ble_eq_true rfl⟩ hPD hS [0] [1] [1, 0] (wN := (wI G q0 n0 xs0 ++ (wI G q1 n1 xs1))) rfl rfl rfl rfl rfl hl.1 (Nat.le_of_ble_eq_true rfl) dX4_tightest_37 (fun H locs hPD hS => ?_)
      refine lv_istore (lv' := [(7, .int q_2), (0, .ref q0), (1, .ref q1), (2, .int p2), (3, .int p3), (4, .int l4), (5, .int l5), (6, .int l6)]) hx hb dX4_tightest_40 hl (by decide) rfl (fun ls hl => ?_)
      refine lv_iload hx hb dX4_tightest_42 (lv_at hl 0 rfl) ?_
      refine lv_iload hx hb dX4_tightest_44 (lv_at hl 6 rfl) ?_
      refine lv_icmp_ge (tgt := 57) hx hb dX4_tightest_46 (by decide) (fun cc1 => ?_) (fun cc1 => ?_)
      · have h := (if_pos cc1).symm.trans h
        refine lv_iinc (v := l6 + 1) (lv' := [(6, .int (l6 + 1)), (7, .int q_2), (0, .ref q0), (1, .ref q1), (2, .int p2), (3, .int p3), (4, .int l4), (5, .int l5)]) hx hb dX4_tightest_57 hl (k := 7) rfl rfl (by decide) rfl (fun ls hl => ?_)
        refine lv_goto (tgt := 13) hx hb dX4_tightest_60 (by decide) ?_
        exact hk13 l4 l5 (l6 + 1) h _ _ _ hPD hS (lv_sub hl [2, 3, 4, 5, 6, 7, 0] rfl)
      · have h := (if_neg cc1).symm.trans h
        refine lv_iload hx hb dX4_tightest_49 (lv_at hl 0 rfl) ?_
        refine lv_istore (lv' := [(5, .int q_2), (7, .int q_2), (0, .ref q0), (1, .ref q1), (2, .int p2), (3, .int p3), (4, .int l4), (6, .int l6)]) hx hb dX4_tightest_51 hl (by decide) rfl (fun ls hl => ?_)
        refine lv_iload hx hb dX4_tightest_53 (lv_at hl 7 rfl) ?_
        refine lv_istore (lv' := [(4, .int l6), (5, .int q_2), (7, .int q_2), (0, .ref q0), (1, .ref q1), (2, .int p2), (3, .int p3), (6, .int l6)]) hx hb dX4_tightest_55 hl (by decide) rfl (fun ls hl => ?_)
        refine lv_iinc (v := l6 + 1) (lv' := [(6, .int (l6 + 1)), (4, .int l6), (5, .int q_2), (7, .int q_2), (0, .ref q0), (1, .ref q1), (2, .int p2), (3, .int p3)]) hx hb dX4_tightest_57 hl (k := 7) rfl rfl (by decide) rfl (fun ls hl => ?_)
        refine lv_goto (tgt := 13) hx hb dX4_tightest_60 (by decide) ?_
        exact hk13 l6 q_2 (l6 + 1) h _ _ _ hPD hS (lv_sub hl [4, 5, 6, 7, 1, 2, 0] rfl)
set_option maxRecDepth 100000 in
set_option maxHeartbeats 4000000 in
theorem ww_f4_tightest_l13  (C0 : Cx cX4_tightest 8 (some .int) RX4 p s m args meth c G DA) {q0 : Nat} {q1 : Nat} {n0 : Nat} {xs0 : Nat → Int32} {n1 : Nat} {xs1 : Nat → Int32} {p2 : Int32} {p3 : Int32} (hn0 : n0 < 2147483648) (hn1 : n1 < 2147483648)  {res : Int32}  : ∀ (n : Nat) (l4 : Int32) (l5 : Int32) (l6 : Int32), f4_tightest_l13 n0 xs0 n1 xs1 p2 p3  n l4 l5 l6 = some res → ∀ (H : Heap) (locs : List Loc) (ls : Array Slot), WD G DA (wI G q0 n0 xs0 ++ (wI G q1 n1 xs1)) H → va_S DA s.heap H locs → lv_has ls 8 [(0, .ref q0), (1, .ref q1), (2, .int p2), (3, .int p3), (4, .int l4), (5, .int l5), (6, .int l6)] → W p l e rmX4_tightest s m args below meth c H locs 0 0 (MQ below (QI G DA res (wI G q0 n0 xs0 ++ (wI G q1 n1 xs1))) args s 0 0 DA) (F0 m 13 ls []) := by
  intro n
  induction n with
  | zero => intro l4 l5 l6 h; cases h
  | succ n ih => intro l4 l5 l6 h; exact ww_f4_tightest_b13 C0 hn0 hn1  ih l4 l5 l6 h
set_option maxRecDepth 100000 in
set_option maxHeartbeats 4000000 in
theorem kt_X4_tightest (l : Launch) (G : Gp) (q0 : Nat) (q1 : Nat) (n0 : Nat) (xs0 : Nat → Int32) (n1 : Nat) (xs1 : Nat → Int32) (p2 : Int32) (p3 : Int32) (hn0 : n0 < 2147483648) (hn1 : n1 < 2147483648) : ∀ {r : Int32}, f4_tightest n0 xs0 n1 xs1 p2 p3 = some r → CtrI l yX4_tightest cX4_tightest 8 (some .int) rmX4_tightest G [.ref q0, .ref q1, .int p2, .int p3] (wI G q0 n0 xs0 ++ (wI G q1 n1 xs1)) r (wI G q0 n0 xs0 ++ (wI G q1 n1 xs1)) := by
  intro res h
  refine ctrI_of (cc := cX4_tightest) (maxL := 8) (ret := (some .int)) (by decide +kernel) rfl (Nat.le_of_ble_eq_true rfl) (fun p e s m below meth c DA C0 hP hD ls hl => ?_)
  have hPD : WD G DA (wI G q0 n0 xs0 ++ (wI G q1 n1 xs1)) s.heap := ⟨hP, hD⟩
  have hS : va_S DA s.heap s.heap [] := va_S.rf
  have hl : lv_has ls 8 [(0, .ref q0), (1, .ref q1), (2, .int p2), (3, .int p3)] := hl
  obtain ⟨hx, hb, hml, hown, hts⟩ := C0.1
  have hK := C0.2.2.2.1
  unfold f4_tightest at h
  refine lv_iload_n hx hb dX4_tightest_0 rfl (lv_at hl 2 rfl) ?_
  obtain ⟨q_1, hq_1, h⟩ := ob2 h
  refine kNI (As := [.int p2]) (rest := []) C0 (kt_X9_lowestOf l G  p2 hq_1) gi_U_X9_lowestOf (host := "IdleCrimes") (index := 48) (List.mem_of_getElem? (i := 39) rfl) gw_6 gw_123 (n := 1) rfl (by decide +kernel) ⟨rfl, rfl, Nat.le_of_ble_eq_true rfl, Nat.le_of_ble_eq_true rfl⟩ hPD hS [] [0, 1] [0, 1] (wN := (wI G q0 n0 xs0 ++ (wI G q1 n1 xs1))) rfl rfl rfl rfl rfl hl.1 (Nat.le_of_ble_eq_true rfl) dX4_tightest_1 (fun H locs hPD hS => ?_)
  refine lv_istore (lv' := [(4, .int q_1), (0, .ref q0), (1, .ref q1), (2, .int p2), (3, .int p3)]) hx hb dX4_tightest_4 hl (by decide) rfl (fun ls hl => ?_)
  refine lv_bipush (v := 17) hx hb dX4_tightest_6 (by decide) ?_
  refine lv_istore (lv' := [(5, .int 17), (4, .int q_1), (0, .ref q0), (1, .ref q1), (2, .int p2), (3, .int p3)]) hx hb dX4_tightest_8 hl (by decide) rfl (fun ls hl => ?_)
  refine lv_iconst (v := 0) hx hb dX4_tightest_10 (by decide) ?_
  refine lv_istore (lv' := [(6, .int 0), (5, .int 17), (4, .int q_1), (0, .ref q0), (1, .ref q1), (2, .int p2), (3, .int p3)]) hx hb dX4_tightest_11 hl (by decide) rfl (fun ls hl => ?_)
  exact ww_f4_tightest_l13 C0 hn0 hn1 NF q_1 17 0 h _ _ _ hPD hS (lv_sub hl [3, 4, 5, 6, 2, 1, 0] rfl)
abbrev rmGX4_canFill (d : Nat) : Room := { frames := d + 4, cells := 0, slots := 0, locals := 27 * d + 91 }
set_option maxRecDepth 100000 in
set_option maxHeartbeats 4000000 in
theorem ww_f4_canFill_b18 {d : Nat} {rec : Nat → (Nat → Int32) → Nat → (Nat → Int32) → Int32 → Int32 → Option (Int32 × (Nat → Int32))} (hrec0 : ∀ (l : Launch) (G : Gp) (q0 : Nat) (q1 : Nat) (n0 : Nat) (xs0 : Nat → Int32) (n1 : Nat) (xs1 : Nat → Int32) (p2 : Int32) (p3 : Int32) (hn0 : n0 < 2147483648) (hn1 : n1 < 2147483648), ∀ {r : Int32 × (Nat → Int32)}, rec n0 xs0 n1 xs1 p2 p3 = some r → CtrI l yX4_canFill cX4_canFill 8 (some .boolean) (rmGX4_canFill d) G [.ref q0, .ref q1, .int p2, .int p3] (wI G q0 n0 xs0 ++ (wI G q1 n1 xs1)) r.1 (wI G q0 n0 r.2 ++ (wI G q1 n1 xs1))) (hdd : True)  (C0 : Cx cX4_canFill 8 (some .boolean) RX4 p s m args meth c G DA) {q0 : Nat} {q1 : Nat} {n0 : Nat} {n1 : Nat} {xs1 : Nat → Int32} {p2 : Int32} {p3 : Int32} (hn0 : n0 < 2147483648) (hn1 : n1 < 2147483648) {k18 : (Nat → Int32) → Int32 → Int32 → Option (Int32 × (Nat → Int32))} {res : Int32 × (Nat → Int32)}  (hk18 : ∀ (xs0 : Nat → Int32) (l4 : Int32) (l5 : Int32), k18 xs0 l4 l5 = some res → ∀ (H : Heap) (locs : List Loc) (ls : Array Slot), WD G DA (wI G q0 n0 xs0 ++ (wI G q1 n1 xs1)) H → va_S DA s.heap H locs → lv_has ls 8 [(0, .ref q0), (1, .ref q1), (2, .int p2), (3, .int p3), (4, .int l4), (5, .int l5)] → W p l e (rmGX4_canFill (d + 1)) s m args below meth c H locs 0 0 (MQ below (QI G DA res.1 (wI G q0 n0 res.2 ++ (wI G q1 n1 xs1))) args s 0 0 DA) (F0 m 18 ls [])) : ∀ (xs0 : Nat → Int32) (l4 : Int32) (l5 : Int32), f4_canFill_b18 rec n0 n1 xs1 p2 p3  k18 xs0 l4 l5 = some res → ∀ (H : Heap) (locs : List Loc) (ls : Array Slot), WD G DA (wI G q0 n0 xs0 ++ (wI G q1 n1 xs1)) H → va_S DA s.heap H locs → lv_has ls 8 [(0, .ref q0), (1, .ref q1), (2, .int p2), (3, .int p3), (4, .int l4), (5, .int l5)] → W p l e (rmGX4_canFill (d + 1)) s m args below meth c H locs 0 0 (MQ below (QI G DA res.1 (wI G q0 n0 res.2 ++ (wI G q1 n1 xs1))) args s 0 0 DA) (F0 m 18 ls []) := by
  obtain ⟨hx, hb, hml, hown, hts⟩ := C0.1
  have hK := C0.2.2.2.1
  intro xs0 l4 l5 h _ _ _ hPD hS hl
  unfold f4_canFill_b18 at h
  refine lv_iload hx hb dX4_canFill_18 (lv_at hl 5 rfl) ?_
  refine lv_iload_n hx hb dX4_canFill_20 rfl (lv_at hl 3 rfl) ?_
  refine lv_icmp_ge (tgt := 100) hx hb dX4_canFill_21 (by decide) (fun cc1 => ?_) (fun cc1 => ?_)
  · have h := (if_pos cc1).symm.trans h
    refine lv_iconst (v := 0) hx hb dX4_canFill_100 (by decide) ?_
    obtain rfl := Option.some.inj h
    exact eZ C0 hPD.1 hPD.2 hS rfl rfl dX4_canFill_101
  · have h := (if_neg cc1).symm.trans h
    refine lv_aload_n hx hb dX4_canFill_24 rfl (lv_at hl 0 rfl) ?_
    refine lv_iload hx hb dX4_canFill_25 (lv_at hl 5 rfl) ?_
    refine kNI (As := [.ref q0, .int l5]) (rest := []) C0 (kt_X9_at l G q0 n0 xs0 l5 hn0) gi_U_X9_at (host := "IdleCrimes") (index := 36) (List.mem_of_getElem? (i := 41) rfl) gw_6 gw_7 (n := 2) rfl (by decide +kernel) ⟨rfl, rfl, by simp only [rmGX4_canFill, rmX9_at]; omega, by simp only [rmGX4_canFill, rmX9_at]; omega⟩ hPD hS [0] [1] [1, 0] (wN := (wI G q0 n0 xs0 ++ (wI G q1 n1 xs1))) rfl rfl rfl rfl rfl hl.1 (Nat.le_of_ble_eq_true rfl) dX4_canFill_27 (fun H locs hPD hS => ?_)
    refine lv_istore (lv' := [(6, .int (f9_at n0 xs0 l5)), (0, .ref q0), (1, .ref q1), (2, .int p2), (3, .int p3), (4, .int l4), (5, .int l5)]) hx hb dX4_canFill_30 hl (by decide) rfl (fun ls hl => ?_)
    refine lv_iload hx hb dX4_canFill_32 (lv_at hl 0 rfl) ?_
    refine lv_aload_n hx hb dX4_canFill_34 rfl (lv_at hl 2 rfl) ?_
    refine lv_iload hx hb dX4_canFill_35 (lv_at hl 5 rfl) ?_
    refine kNI (As := [.ref q1, .int l4]) (rest := [.int (f9_at n0 xs0 l5)]) C0 (kt_X9_at l G q1 n1 xs1 l4 hn1) gi_U_X9_at (host := "IdleCrimes") (index := 36) (List.mem_of_getElem? (i := 41) rfl) gw_6 gw_7 (n := 2) rfl (by decide +kernel) ⟨rfl, rfl, by simp only [rmGX4_canFill, rmX9_at]; omega, by simp only [rmGX4_canFill, rmX9_at]; omega⟩ hPD hS [1] [0] [0, 1] (wN := (wI G q0 n0 xs0 ++ (wI G q1 n1 xs1))) rfl rfl rfl rfl rfl hl.1 (Nat.le_of_ble_eq_true rfl) dX4_canFill_37 (fun H locs hPD hS => ?_)
    refine lv_iand hx hb dX4_canFill_40 ?_
    refine lv_if_ne (tgt := 94) hx hb dX4_canFill_41 (by decide) (fun cc1 => ?_) (fun cc1 => ?_)
    · have h := (if_neg cc1).symm.trans h
      refine lv_iinc (v := l5 + 1) (lv' := [(5, .int (l5 + 1)), (6, .int (f9_at n0 xs0 l5)), (0, .ref q0), (1, .ref q1), (2, .int p2), (3, .int p3), (4, .int l4)]) hx hb dX4_canFill_94 hl (k := 6) rfl rfl (by decide) rfl (fun ls hl => ?_)
      refine lv_goto (tgt := 18) hx hb dX4_canFill_97 (by decide) ?_
      exact hk18 xs0 l4 (l5 + 1) h _ _ _ hPD hS (lv_sub hl [2, 3, 4, 5, 6, 0] rfl)
    · have h := (if_pos cc1).symm.trans h
      refine lv_aload_n hx hb dX4_canFill_44 rfl (lv_at hl 1 rfl) ?_
      refine lv_iload hx hb dX4_canFill_45 (lv_at hl 6 rfl) ?_
      refine lv_iload hx hb dX4_canFill_47 (lv_at hl 0 rfl) ?_
      refine lv_iconst (v := 1) hx hb dX4_canFill_49 (by decide) ?_
      refine lv_iload hx hb dX4_canFill_50 (lv_at hl 5 rfl) ?_
      refine lv_ishl hx hb dX4_canFill_52 ?_
      refine lv_ior hx hb dX4_canFill_53 ?_
      obtain ⟨z_2, ez_2, h⟩ := lvl h
      have kc := kt_X9_put l G q0 n0 xs0 l5 ((f9_at n0 xs0 l5) ||| (shl 1 l4)) hn0
      rw [← ez_2] at kc
      clear ez_2
      refine kNV (As := [.ref q0, .int l5, .int ((f9_at n0 xs0 l5) ||| (shl 1 l4))]) (rest := []) C0 (kc) gi_U_X9_put (host := "IdleCrimes") (index := 40) (List.mem_of_getElem? (i := 42) rfl) gw_6 gw_19 (n := 3) rfl (by decide +kernel) ⟨rfl, rfl, by simp only [rmGX4_canFill, rmX9_put]; omega, by simp only [rmGX4_canFill, rmX9_put]; omega⟩ hPD hS [0] [1] [1, 0] (wN := (wI G q0 n0 z_2 ++ (wI G q1 n1 xs1))) rfl rfl rfl rfl rfl hl.1 (Nat.le_of_ble_eq_true rfl) dX4_canFill_54 (fun H locs hPD hS => ?_)
      obtain ⟨y0_3, ey0_3, h⟩ := lvl h
      have hPD : WD G DA (wI G q0 n0 y0_3 ++ (wI G q1 n1 xs1)) H := by rw [ey0_3]; exact hPD
      clear ey0_3
      refine lv_aload_n hx hb dX4_canFill_57 rfl (lv_at hl 1 rfl) ?_
      refine lv_aload_n hx hb dX4_canFill_58 rfl (lv_at hl 2 rfl) ?_
      refine lv_iload_n hx hb dX4_canFill_59 rfl (lv_at hl 3 rfl) ?_
      refine lv_iconst (v := 1) hx hb dX4_canFill_60 (by decide) ?_
      refine lv_iload hx hb dX4_canFill_61 (lv_at hl 5 rfl) ?_
      refine lv_ishl hx hb dX4_canFill_63 ?_
      refine lv_iconst (v := (-1)) hx hb dX4_canFill_64 (by decide) ?_
      refine lv_ixor hx hb dX4_canFill_65 ?_
      refine lv_iand hx hb dX4_canFill_66 ?_
      refine lv_iload_n hx hb dX4_canFill_67 rfl (lv_at hl 4 rfl) ?_
      obtain ⟨q_4, hq_4, h⟩ := ob2 h
      refine kSI (As := [.ref q0, .ref q1, .int (p2 &&& ((shl 1 l4) ^^^ (-1))), .int p3]) (rest := []) C0 (hrec0 l G q0 q1 n0 y0_3 n1 xs1 (p2 &&& ((shl 1 l4) ^^^ (-1))) p3 hn0 hn1 hq_4) gi_S_X4_24_X4_canFill (n := 4) rfl (by decide +kernel) ⟨rfl, rfl, by simp only [rmGX4_canFill]; omega, by simp only [rmGX4_canFill]; omega⟩ hPD hS [0, 1] [] [0, 1] (wN := (wI G q0 n0 q_4.2 ++ (wI G q1 n1 xs1))) rfl rfl rfl rfl rfl hl.1 (Nat.le_of_ble_eq_true rfl) dX4_canFill_68 (fun H locs hPD hS => ?_)
      obtain ⟨y0_5, ey0_5, h⟩ := lvl h
      have hPD : WD G DA (wI G q0 n0 y0_5 ++ (wI G q1 n1 xs1)) H := by rw [ey0_5]; exact hPD
      clear ey0_5
      refine lv_istore (lv' := [(7, .int q_4.1), (6, .int (f9_at n0 xs0 l5)), (0, .ref q0), (1, .ref q1), (2, .int p2), (3, .int p3), (4, .int l4), (5, .int l5)]) hx hb dX4_canFill_71 hl (by decide) rfl (fun ls hl => ?_)
      refine lv_aload_n hx hb dX4_canFill_73 rfl (lv_at hl 2 rfl) ?_
      refine lv_iload hx hb dX4_canFill_74 (lv_at hl 7 rfl) ?_
      refine lv_iload hx hb dX4_canFill_76 (lv_at hl 1 rfl) ?_
      obtain ⟨z_6, ez_6, h⟩ := lvl h
      have kc := kt_X9_put l G q0 n0 y0_5 l5 (f9_at n0 xs0 l5) hn0
      rw [← ez_6] at kc
      clear ez_6
      refine kNV (As := [.ref q0, .int l5, .int (f9_at n0 xs0 l5)]) (rest := []) C0 (kc) gi_U_X9_put (host := "IdleCrimes") (index := 40) (List.mem_of_getElem? (i := 42) rfl) gw_6 gw_19 (n := 3) rfl (by decide +kernel) ⟨rfl, rfl, by simp only [rmGX4_canFill, rmX9_put]; omega, by simp only [rmGX4_canFill, rmX9_put]; omega⟩ hPD hS [0] [1] [1, 0] (wN := (wI G q0 n0 z_6 ++ (wI G q1 n1 xs1))) rfl rfl rfl rfl rfl hl.1 (Nat.le_of_ble_eq_true rfl) dX4_canFill_78 (fun H locs hPD hS => ?_)
      obtain ⟨y0_7, ey0_7, h⟩ := lvl h
      have hPD : WD G DA (wI G q0 n0 y0_7 ++ (wI G q1 n1 xs1)) H := by rw [ey0_7]; exact hPD
      clear ey0_7
      refine lv_iload hx hb dX4_canFill_81 (lv_at hl 0 rfl) ?_
      refine lv_if_ne (tgt := 91) hx hb dX4_canFill_83 (by decide) (fun cc1 => ?_) (fun cc1 => ?_)
      · have h := (if_neg cc1).symm.trans h
        refine lv_iload hx hb dX4_canFill_91 (lv_at hl 0 rfl) ?_
        obtain ⟨hz, h⟩ := ob h
        obtain rfl := Option.some.inj h
        exact eZ C0 hPD.1 hPD.2 hS rfl (nbool (Classical.not_not.mp hz)) dX4_canFill_93
      · have h := (if_pos cc1).symm.trans h
        refine lv_iload hx hb dX4_canFill_86 (lv_at hl 1 rfl) ?_
        refine lv_if_ne (tgt := 94) hx hb dX4_canFill_88 (by decide) (fun cc1 => ?_) (fun cc1 => ?_)
        · have h := (if_neg cc1).symm.trans h
          refine lv_iinc (v := l5 + 1) (lv' := [(5, .int (l5 + 1)), (7, .int q_4.1), (6, .int (f9_at n0 xs0 l5)), (0, .ref q0), (1, .ref q1), (2, .int p2), (3, .int p3), (4, .int l4)]) hx hb dX4_canFill_94 hl (k := 7) rfl rfl (by decide) rfl (fun ls hl => ?_)
          refine lv_goto (tgt := 18) hx hb dX4_canFill_97 (by decide) ?_
          exact hk18 y0_7 l4 (l5 + 1) h _ _ _ hPD hS (lv_sub hl [3, 4, 5, 6, 7, 0] rfl)
        · have h := (if_pos cc1).symm.trans h
          refine lv_iload hx hb dX4_canFill_91 (lv_at hl 0 rfl) ?_
          obtain ⟨hz, h⟩ := ob h
          obtain rfl := Option.some.inj h
          exact eZ C0 hPD.1 hPD.2 hS rfl (nbool (Classical.not_not.mp hz)) dX4_canFill_93
set_option maxRecDepth 100000 in
set_option maxHeartbeats 4000000 in
theorem ww_f4_canFill_l18 {d : Nat} {rec : Nat → (Nat → Int32) → Nat → (Nat → Int32) → Int32 → Int32 → Option (Int32 × (Nat → Int32))} (hrec0 : ∀ (l : Launch) (G : Gp) (q0 : Nat) (q1 : Nat) (n0 : Nat) (xs0 : Nat → Int32) (n1 : Nat) (xs1 : Nat → Int32) (p2 : Int32) (p3 : Int32) (hn0 : n0 < 2147483648) (hn1 : n1 < 2147483648), ∀ {r : Int32 × (Nat → Int32)}, rec n0 xs0 n1 xs1 p2 p3 = some r → CtrI l yX4_canFill cX4_canFill 8 (some .boolean) (rmGX4_canFill d) G [.ref q0, .ref q1, .int p2, .int p3] (wI G q0 n0 xs0 ++ (wI G q1 n1 xs1)) r.1 (wI G q0 n0 r.2 ++ (wI G q1 n1 xs1))) (hdd : True)  (C0 : Cx cX4_canFill 8 (some .boolean) RX4 p s m args meth c G DA) {q0 : Nat} {q1 : Nat} {n0 : Nat} {n1 : Nat} {xs1 : Nat → Int32} {p2 : Int32} {p3 : Int32} (hn0 : n0 < 2147483648) (hn1 : n1 < 2147483648)  {res : Int32 × (Nat → Int32)}  : ∀ (n : Nat) (xs0 : Nat → Int32) (l4 : Int32) (l5 : Int32), f4_canFill_l18 rec n0 n1 xs1 p2 p3  n xs0 l4 l5 = some res → ∀ (H : Heap) (locs : List Loc) (ls : Array Slot), WD G DA (wI G q0 n0 xs0 ++ (wI G q1 n1 xs1)) H → va_S DA s.heap H locs → lv_has ls 8 [(0, .ref q0), (1, .ref q1), (2, .int p2), (3, .int p3), (4, .int l4), (5, .int l5)] → W p l e (rmGX4_canFill (d + 1)) s m args below meth c H locs 0 0 (MQ below (QI G DA res.1 (wI G q0 n0 res.2 ++ (wI G q1 n1 xs1))) args s 0 0 DA) (F0 m 18 ls []) := by
  intro n
  induction n with
  | zero => intro xs0 l4 l5 h; cases h
  | succ n ih => intro xs0 l4 l5 h; exact ww_f4_canFill_b18 hrec0 hdd C0 hn0 hn1  ih xs0 l4 l5 h
set_option maxRecDepth 100000 in
set_option maxHeartbeats 4000000 in
theorem ko_X4_canFill {d : Nat} {rec : Nat → (Nat → Int32) → Nat → (Nat → Int32) → Int32 → Int32 → Option (Int32 × (Nat → Int32))} (hrec0 : ∀ (l : Launch) (G : Gp) (q0 : Nat) (q1 : Nat) (n0 : Nat) (xs0 : Nat → Int32) (n1 : Nat) (xs1 : Nat → Int32) (p2 : Int32) (p3 : Int32) (hn0 : n0 < 2147483648) (hn1 : n1 < 2147483648), ∀ {r : Int32 × (Nat → Int32)}, rec n0 xs0 n1 xs1 p2 p3 = some r → CtrI l yX4_canFill cX4_canFill 8 (some .boolean) (rmGX4_canFill d) G [.ref q0, .ref q1, .int p2, .int p3] (wI G q0 n0 xs0 ++ (wI G q1 n1 xs1)) r.1 (wI G q0 n0 r.2 ++ (wI G q1 n1 xs1))) (hdd : True) (l : Launch) (G : Gp) (q0 : Nat) (q1 : Nat) (n0 : Nat) (xs0 : Nat → Int32) (n1 : Nat) (xs1 : Nat → Int32) (p2 : Int32) (p3 : Int32) (hn0 : n0 < 2147483648) (hn1 : n1 < 2147483648) : ∀ {r : Int32 × (Nat → Int32)}, f4_canFill rec n0 xs0 n1 xs1 p2 p3 = some r → CtrI l yX4_canFill cX4_canFill 8 (some .boolean) (rmGX4_canFill (d + 1)) G [.ref q0, .ref q1, .int p2, .int p3] (wI G q0 n0 xs0 ++ (wI G q1 n1 xs1)) r.1 (wI G q0 n0 r.2 ++ (wI G q1 n1 xs1)) := by
  intro res h
  refine ctrI_of (cc := cX4_canFill) (maxL := 8) (ret := (some .boolean)) (by decide +kernel) rfl (Nat.le_of_ble_eq_true rfl) (fun p e s m below meth c DA C0 hP hD ls hl => ?_)
  have hPD : WD G DA (wI G q0 n0 xs0 ++ (wI G q1 n1 xs1)) s.heap := ⟨hP, hD⟩
  have hS : va_S DA s.heap s.heap [] := va_S.rf
  have hl : lv_has ls 8 [(0, .ref q0), (1, .ref q1), (2, .int p2), (3, .int p3)] := hl
  obtain ⟨hx, hb, hml, hown, hts⟩ := C0.1
  have hK := C0.2.2.2.1
  unfold f4_canFill at h
  refine lv_iload_n hx hb dX4_canFill_0 rfl (lv_at hl 2 rfl) ?_
  refine lv_if_ne (tgt := 6) hx hb dX4_canFill_1 (by decide) (fun cc1 => ?_) (fun cc1 => ?_)
  · have h := (if_neg cc1).symm.trans h
    refine lv_aload_n hx hb dX4_canFill_6 rfl (lv_at hl 0 rfl) ?_
    refine lv_aload_n hx hb dX4_canFill_7 rfl (lv_at hl 1 rfl) ?_
    refine lv_iload_n hx hb dX4_canFill_8 rfl (lv_at hl 2 rfl) ?_
    refine lv_iload_n hx hb dX4_canFill_9 rfl (lv_at hl 3 rfl) ?_
    obtain ⟨q_1, hq_1, h⟩ := ob2 h
    refine kSI (As := [.ref q0, .ref q1, .int p2, .int p3]) (rest := []) C0 (kt_X4_tightest l G q0 q1 n0 xs0 n1 xs1 p2 p3 hn0 hn1 hq_1) gi_S_X4_44_X4_tightest (n := 4) rfl (by decide +kernel) ⟨rfl, rfl, by simp only [rmGX4_canFill, rmX4_tightest]; omega, by simp only [rmGX4_canFill, rmX4_tightest]; omega⟩ hPD hS [0, 1] [] [0, 1] (wN := (wI G q0 n0 xs0 ++ (wI G q1 n1 xs1))) rfl rfl rfl rfl rfl hl.1 (Nat.le_of_ble_eq_true rfl) dX4_canFill_10 (fun H locs hPD hS => ?_)
    refine lv_istore (lv' := [(4, .int q_1), (0, .ref q0), (1, .ref q1), (2, .int p2), (3, .int p3)]) hx hb dX4_canFill_13 hl (by decide) rfl (fun ls hl => ?_)
    refine lv_iconst (v := 0) hx hb dX4_canFill_15 (by decide) ?_
    refine lv_istore (lv' := [(5, .int 0), (4, .int q_1), (0, .ref q0), (1, .ref q1), (2, .int p2), (3, .int p3)]) hx hb dX4_canFill_16 hl (by decide) rfl (fun ls hl => ?_)
    exact ww_f4_canFill_l18 hrec0 hdd C0 hn0 hn1 NF xs0 q_1 0 h _ _ _ hPD hS (lv_sub hl [2, 3, 4, 5, 1, 0] rfl)
  · have h := (if_pos cc1).symm.trans h
    refine lv_iconst (v := 1) hx hb dX4_canFill_4 (by decide) ?_
    obtain rfl := Option.some.inj h
    exact eZ C0 hPD.1 hPD.2 hS rfl rfl dX4_canFill_5

set_option maxRecDepth 100000 in
set_option maxHeartbeats 4000000 in
theorem kg_X4_canFill : ∀ d : Nat, (∀ (l : Launch) (G : Gp) (q0 : Nat) (q1 : Nat) (n0 : Nat) (xs0 : Nat → Int32) (n1 : Nat) (xs1 : Nat → Int32) (p2 : Int32) (p3 : Int32) (hn0 : n0 < 2147483648) (hn1 : n1 < 2147483648), ∀ {r : Int32 × (Nat → Int32)}, f4_canFill_rec d n0 xs0 n1 xs1 p2 p3 = some r → CtrI l yX4_canFill cX4_canFill 8 (some .boolean) (rmGX4_canFill d) G [.ref q0, .ref q1, .int p2, .int p3] (wI G q0 n0 xs0 ++ (wI G q1 n1 xs1)) r.1 (wI G q0 n0 r.2 ++ (wI G q1 n1 xs1))) := by
  intro d
  induction d with
  | zero => intro l G _ _ _ _ _ _ _ _ _ _ r h; cases h
  | succ d ih =>
    exact fun l G v0 v1 v2 v3 v4 v5 v6 v7 v8 v9 r h => ko_X4_canFill ih trivial l G v0 v1 v2 v3 v4 v5 v6 v7 v8 v9 h
theorem kt_X4_canFill (d : Nat) : ∀ (l : Launch) (G : Gp) (q0 : Nat) (q1 : Nat) (n0 : Nat) (xs0 : Nat → Int32) (n1 : Nat) (xs1 : Nat → Int32) (p2 : Int32) (p3 : Int32) (hn0 : n0 < 2147483648) (hn1 : n1 < 2147483648), ∀ {r : Int32 × (Nat → Int32)}, f4_canFill_rec d n0 xs0 n1 xs1 p2 p3 = some r → CtrI l yX4_canFill cX4_canFill 8 (some .boolean) (rmGX4_canFill d) G [.ref q0, .ref q1, .int p2, .int p3] (wI G q0 n0 xs0 ++ (wI G q1 n1 xs1)) r.1 (wI G q0 n0 r.2 ++ (wI G q1 n1 xs1)) := (kg_X4_canFill d)
abbrev rmX4_fewest : Room := { frames := 69, cells := 0, slots := 0, locals := 1846 }
set_option maxRecDepth 100000 in
set_option maxHeartbeats 4000000 in
theorem ww_f4_fewest_b26  (C0 : Cx cX4_fewest 3 (some .int) RX4 p s m args meth c G DA) {h0 : Nat} {a0 : Nat → Nat} {h1 : Nat} {a1 : Nat → Nat} {f0 : Nat → Int32} {f1 : Nat → Int32} {A1 : Nat → Nat → Int32}  {k26 : (Nat → Nat → Int32) → Int32 → Option (Int32 × (Nat → Nat → Int32))} {res : Int32 × (Nat → Nat → Int32)}  (hk26 : ∀ (A0 : Nat → Nat → Int32) (l2 : Int32), k26 A0 l2 = some res → ∀ (H : Heap) (locs : List Loc) (ls : Array Slot), WD G DA (wX4 G h0 a0 f0 A0 ++ (wX1 G h1 a1 f1 A1)) H → va_S DA s.heap H locs → lv_has ls 3 [(0, .ref h0), (1, .ref h1), (2, .int l2)] → W p l e rmX4_fewest s m args below meth c H locs 0 0 (MQ below (QI G DA res.1 (wX4 G h0 a0 f0 res.2 ++ (wX1 G h1 a1 f1 A1))) args s 0 0 DA) (F0 m 26 ls [])) : ∀ (A0 : Nat → Nat → Int32) (l2 : Int32), f4_fewest_b26 f0 f1 A1  k26 A0 l2 = some res → ∀ (H : Heap) (locs : List Loc) (ls : Array Slot), WD G DA (wX4 G h0 a0 f0 A0 ++ (wX1 G h1 a1 f1 A1)) H → va_S DA s.heap H locs → lv_has ls 3 [(0, .ref h0), (1, .ref h1), (2, .int l2)] → W p l e rmX4_fewest s m args below meth c H locs 0 0 (MQ below (QI G DA res.1 (wX4 G h0 a0 f0 res.2 ++ (wX1 G h1 a1 f1 A1))) args s 0 0 DA) (F0 m 26 ls []) := by
  obtain ⟨hx, hb, hml, hown, hts⟩ := C0.1
  have hK := C0.2.2.2.1
  intro A0 l2 h _ _ _ hPD hS hl
  unfold f4_fewest_b26 at h
  refine lv_iload_n hx hb dX4_fewest_26 rfl (lv_at hl 2 rfl) ?_
  refine lv_bipush (v := 16) hx hb dX4_fewest_27 (by decide) ?_
  refine lv_icmp_ge (tgt := 57) hx hb dX4_fewest_29 (by decide) (fun cc1 => ?_) (fun cc1 => ?_)
  · have h := (if_pos cc1).symm.trans h
    refine lv_iload_n hx hb dX4_fewest_57 rfl (lv_at hl 2 rfl) ?_
    obtain rfl := Option.some.inj h
    exact eI C0 hPD.1 hPD.2 hS rfl dX4_fewest_58
  · have h := (if_neg cc1).symm.trans h
    refine lv_aload_n hx hb dX4_fewest_32 rfl (lv_at hl 0 rfl) ?_
    refine va_get (D := G.1) (ci := 4) (v := .ref (a0 0)) (C := RX4) (T := TX4) (N := 1) hx hb hts inlX4 hown hK hPD.1 0 rfl rfl 0 (by decide) (hts _ gw_256) (fun _ h9 => h9) rfl dX4_fewest_33 ?_
    refine lv_aload_n hx hb dX4_fewest_36 rfl (lv_at hl 1 rfl) ?_
    refine va_get (D := G.1) (ci := 1) (v := .ref (a1 1)) (C := RX1) (T := TX1) (N := 4) hx hb hts inlX1 hown hK hPD.1 2 rfl rfl 1 (by decide) (hts _ gw_257) (fun _ h9 => h9) rfl dX4_fewest_37 ?_
    refine lv_aload_n hx hb dX4_fewest_40 rfl (lv_at hl 1 rfl) ?_
    refine va_get (D := G.1) (ci := 1) (v := .int (f1 0)) (C := RX1) (T := TX1) (N := 4) hx hb hts inlX1 hown hK hPD.1 2 rfl rfl 0 (by decide) (hts _ gw_258) (fun _ h9 => h9) rfl dX4_fewest_41 ?_
    refine lv_iload_n hx hb dX4_fewest_44 rfl (lv_at hl 2 rfl) ?_
    obtain ⟨q_1, hq_1, h⟩ := ob2 h
    refine kSI (As := [.ref (a0 0), .ref (a1 1), .int (f1 0), .int l2]) (rest := []) C0 (kt_X4_canFill 64 l G (a0 0) (a1 1) 16 (A0 0) 16 (A1 1) (f1 0) l2 (by decide) (by decide) hq_1) gi_S_X4_24_X4_canFill (n := 4) rfl (by decide +kernel) ⟨rfl, rfl, Nat.le_of_ble_eq_true rfl, Nat.le_of_ble_eq_true rfl⟩ hPD hS [1, 3] [0, 2, 4, 5] [0, 4, 1, 5, 2, 3] (wN := (wX4 G h0 a0 f0 (updA A0 0 q_1.2) ++ (wX1 G h1 a1 f1 A1))) rfl rfl rfl rfl rfl hl.1 (Nat.le_of_ble_eq_true rfl) dX4_fewest_45 (fun H locs hPD hS => ?_)
    obtain ⟨A0_2, eA0_2, h⟩ := lvl h
    have hPD : WD G DA (wX4 G h0 a0 f0 A0_2 ++ (wX1 G h1 a1 f1 A1)) H := by rw [eA0_2]; exact hPD
    clear eA0_2
    refine lv_if_ne (tgt := 57) hx hb dX4_fewest_48 (by decide) (fun cc1 => ?_) (fun cc1 => ?_)
    · have h := (if_neg cc1).symm.trans h
      refine lv_iload_n hx hb dX4_fewest_57 rfl (lv_at hl 2 rfl) ?_
      obtain rfl := Option.some.inj h
      exact eI C0 hPD.1 hPD.2 hS rfl dX4_fewest_58
    · have h := (if_pos cc1).symm.trans h
      refine lv_iinc (v := l2 + 1) (lv' := [(2, .int (l2 + 1)), (0, .ref h0), (1, .ref h1)]) hx hb dX4_fewest_51 hl (k := 2) rfl rfl (by decide) rfl (fun ls hl => ?_)
      refine lv_goto (tgt := 26) hx hb dX4_fewest_54 (by decide) ?_
      exact hk26 A0_2 (l2 + 1) h _ _ _ hPD hS (lv_sub hl [1, 2, 0] rfl)
set_option maxRecDepth 100000 in
set_option maxHeartbeats 4000000 in
theorem ww_f4_fewest_l26  (C0 : Cx cX4_fewest 3 (some .int) RX4 p s m args meth c G DA) {h0 : Nat} {a0 : Nat → Nat} {h1 : Nat} {a1 : Nat → Nat} {f0 : Nat → Int32} {f1 : Nat → Int32} {A1 : Nat → Nat → Int32}   {res : Int32 × (Nat → Nat → Int32)}  : ∀ (n : Nat) (A0 : Nat → Nat → Int32) (l2 : Int32), f4_fewest_l26 f0 f1 A1  n A0 l2 = some res → ∀ (H : Heap) (locs : List Loc) (ls : Array Slot), WD G DA (wX4 G h0 a0 f0 A0 ++ (wX1 G h1 a1 f1 A1)) H → va_S DA s.heap H locs → lv_has ls 3 [(0, .ref h0), (1, .ref h1), (2, .int l2)] → W p l e rmX4_fewest s m args below meth c H locs 0 0 (MQ below (QI G DA res.1 (wX4 G h0 a0 f0 res.2 ++ (wX1 G h1 a1 f1 A1))) args s 0 0 DA) (F0 m 26 ls []) := by
  intro n
  induction n with
  | zero => intro A0 l2 h; cases h
  | succ n ih => intro A0 l2 h; exact ww_f4_fewest_b26 C0  ih A0 l2 h
set_option maxRecDepth 100000 in
set_option maxHeartbeats 4000000 in
theorem ww_f4_fewest_b2  (C0 : Cx cX4_fewest 3 (some .int) RX4 p s m args meth c G DA) {h0 : Nat} {a0 : Nat → Nat} {h1 : Nat} {a1 : Nat → Nat} {f0 : Nat → Int32} {f1 : Nat → Int32} {A1 : Nat → Nat → Int32}  {k2 : (Nat → Nat → Int32) → Int32 → Option (Int32 × (Nat → Nat → Int32))} {res : Int32 × (Nat → Nat → Int32)}  (hk2 : ∀ (A0 : Nat → Nat → Int32) (l2 : Int32), k2 A0 l2 = some res → ∀ (H : Heap) (locs : List Loc) (ls : Array Slot), WD G DA (wX4 G h0 a0 f0 A0 ++ (wX1 G h1 a1 f1 A1)) H → va_S DA s.heap H locs → lv_has ls 3 [(0, .ref h0), (1, .ref h1), (2, .int l2)] → W p l e rmX4_fewest s m args below meth c H locs 0 0 (MQ below (QI G DA res.1 (wX4 G h0 a0 f0 res.2 ++ (wX1 G h1 a1 f1 A1))) args s 0 0 DA) (F0 m 2 ls [])) : ∀ (A0 : Nat → Nat → Int32) (l2 : Int32), f4_fewest_b2 f0 f1 A1  k2 A0 l2 = some res → ∀ (H : Heap) (locs : List Loc) (ls : Array Slot), WD G DA (wX4 G h0 a0 f0 A0 ++ (wX1 G h1 a1 f1 A1)) H → va_S DA s.heap H locs → lv_has ls 3 [(0, .ref h0), (1, .ref h1), (2, .int l2)] → W p l e rmX4_fewest s m args below meth c H locs 0 0 (MQ below (QI G DA res.1 (wX4 G h0 a0 f0 res.2 ++ (wX1 G h1 a1 f1 A1))) args s 0 0 DA) (F0 m 2 ls []) := by
  obtain ⟨hx, hb, hml, hown, hts⟩ := C0.1
  have hK := C0.2.2.2.1
  intro A0 l2 h _ _ _ hPD hS hl
  unfold f4_fewest_b2 at h
  refine lv_iload_n hx hb dX4_fewest_2 rfl (lv_at hl 2 rfl) ?_
  refine lv_aload_n hx hb dX4_fewest_3 rfl (lv_at hl 0 rfl) ?_
  refine va_get (D := G.1) (ci := 4) (v := .ref (a0 0)) (C := RX4) (T := TX4) (N := 1) hx hb hts inlX4 hown hK hPD.1 0 rfl rfl 0 (by decide) (hts _ gw_256) (fun _ h9 => h9) rfl dX4_fewest_4 ?_
  refine va_alen (v := 16) hx hb hK hPD.1 1 1 rfl rfl rfl dX4_fewest_7 ?_
  refine lv_icmp_ge (tgt := 24) hx hb dX4_fewest_8 (by decide) (fun cc1 => ?_) (fun cc1 => ?_)
  · have h := (if_pos cc1).symm.trans h
    refine lv_iconst (v := 0) hx hb dX4_fewest_24 (by decide) ?_
    refine lv_istore_n (lv' := [(2, .int 0), (0, .ref h0), (1, .ref h1)]) hx hb dX4_fewest_25 rfl hl (by decide) rfl (fun ls hl => ?_)
    exact ww_f4_fewest_l26 C0 NF A0 0 h _ _ _ hPD hS (lv_sub hl [1, 2, 0] rfl)
  · have h := (if_neg cc1).symm.trans h
    refine lv_aload_n hx hb dX4_fewest_11 rfl (lv_at hl 0 rfl) ?_
    refine va_get (D := G.1) (ci := 4) (v := .ref (a0 0)) (C := RX4) (T := TX4) (N := 1) hx hb hts inlX4 hown hK hPD.1 0 rfl rfl 0 (by decide) (hts _ gw_256) (fun _ h9 => h9) rfl dX4_fewest_12 ?_
    refine lv_iload_n hx hb dX4_fewest_15 rfl (lv_at hl 2 rfl) ?_
    refine lv_iconst (v := 0) hx hb dX4_fewest_16 (by decide) ?_
    obtain ⟨hi_3, h⟩ := ob h
    refine va_iast hx hb hK hPD.1 hPD.2 hS 1 1 rfl rfl hi_3 dX4_fewest_17 (fun H locs hP hD hS => ?_)
    obtain ⟨A0_4, eA0_4, h⟩ := lvl h
    have hPD : WD G DA (wX4 G h0 a0 f0 A0_4 ++ (wX1 G h1 a1 f1 A1)) H := by rw [eA0_4]; exact ⟨hP, hD⟩
    clear eA0_4 hP hD
    refine lv_iinc (v := l2 + 1) (lv' := [(2, .int (l2 + 1)), (0, .ref h0), (1, .ref h1)]) hx hb dX4_fewest_18 hl (k := 2) rfl rfl (by decide) rfl (fun ls hl => ?_)
    refine lv_goto (tgt := 2) hx hb dX4_fewest_21 (by decide) ?_
    exact hk2 A0_4 (l2 + 1) h _ _ _ hPD hS (lv_sub hl [1, 2, 0] rfl)
set_option maxRecDepth 100000 in
set_option maxHeartbeats 4000000 in
theorem ww_f4_fewest_l2  (C0 : Cx cX4_fewest 3 (some .int) RX4 p s m args meth c G DA) {h0 : Nat} {a0 : Nat → Nat} {h1 : Nat} {a1 : Nat → Nat} {f0 : Nat → Int32} {f1 : Nat → Int32} {A1 : Nat → Nat → Int32}   {res : Int32 × (Nat → Nat → Int32)}  : ∀ (n : Nat) (A0 : Nat → Nat → Int32) (l2 : Int32), f4_fewest_l2 f0 f1 A1  n A0 l2 = some res → ∀ (H : Heap) (locs : List Loc) (ls : Array Slot), WD G DA (wX4 G h0 a0 f0 A0 ++ (wX1 G h1 a1 f1 A1)) H → va_S DA s.heap H locs → lv_has ls 3 [(0, .ref h0), (1, .ref h1), (2, .int l2)] → W p l e rmX4_fewest s m args below meth c H locs 0 0 (MQ below (QI G DA res.1 (wX4 G h0 a0 f0 res.2 ++ (wX1 G h1 a1 f1 A1))) args s 0 0 DA) (F0 m 2 ls []) := by
  intro n
  induction n with
  | zero => intro A0 l2 h; cases h
  | succ n ih => intro A0 l2 h; exact ww_f4_fewest_b2 C0  ih A0 l2 h
set_option maxRecDepth 100000 in
set_option maxHeartbeats 4000000 in
theorem kt_X4_fewest (l : Launch) (G : Gp) (h0 : Nat) (a0 : Nat → Nat) (h1 : Nat) (a1 : Nat → Nat) (f0 : Nat → Int32) (A0 : Nat → Nat → Int32) (f1 : Nat → Int32) (A1 : Nat → Nat → Int32) : ∀ {r : Int32 × (Nat → Nat → Int32)}, f4_fewest f0 A0 f1 A1 = some r → CtrI l yX4_fewest cX4_fewest 3 (some .int) rmX4_fewest G [.ref h0, .ref h1] (wX4 G h0 a0 f0 A0 ++ (wX1 G h1 a1 f1 A1)) r.1 (wX4 G h0 a0 f0 r.2 ++ (wX1 G h1 a1 f1 A1)) := by
  intro res h
  refine ctrI_of (cc := cX4_fewest) (maxL := 3) (ret := (some .int)) (by decide +kernel) rfl (Nat.le_of_ble_eq_true rfl) (fun p e s m below meth c DA C0 hP hD ls hl => ?_)
  have hPD : WD G DA (wX4 G h0 a0 f0 A0 ++ (wX1 G h1 a1 f1 A1)) s.heap := ⟨hP, hD⟩
  have hS : va_S DA s.heap s.heap [] := va_S.rf
  have hl : lv_has ls 3 [(0, .ref h0), (1, .ref h1)] := hl
  obtain ⟨hx, hb, hml, hown, hts⟩ := C0.1
  have hK := C0.2.2.2.1
  unfold f4_fewest at h
  refine lv_iconst (v := 0) hx hb dX4_fewest_0 (by decide) ?_
  refine lv_istore_n (lv' := [(2, .int 0), (0, .ref h0), (1, .ref h1)]) hx hb dX4_fewest_1 rfl hl (by decide) rfl (fun ls hl => ?_)
  exact ww_f4_fewest_l2 C0 NF A0 0 h _ _ _ hPD hS (lv_sub hl [1, 2, 0] rfl)
abbrev rmX4_leastWatch : Room := { frames := 69, cells := 0, slots := 0, locals := 1846 }
set_option maxRecDepth 100000 in
set_option maxHeartbeats 4000000 in
theorem ww_f4_leastWatch_b3  (C0 : Cx cX4_leastWatch 8 (some .int) RX4 p s m args meth c G DA) {h0 : Nat} {a0 : Nat → Nat} {q1 : Nat} {f0 : Nat → Int32} {n1 : Nat} {xs1 : Nat → Int32} {p1 : Int32} {p2 : Int32} {p3 : Int32} (hn1 : n1 < 2147483648) {k3 : (Nat → Nat → Int32) → Int32 → Option (Int32 × (Nat → Nat → Int32))} {res : Int32 × (Nat → Nat → Int32)}  (hk3 : ∀ (A0 : Nat → Nat → Int32) (l5 : Int32), k3 A0 l5 = some res → ∀ (H : Heap) (locs : List Loc) (ls : Array Slot), WD G DA (wX4 G h0 a0 f0 A0 ++ (wI G q1 n1 xs1)) H → va_S DA s.heap H locs → lv_has ls 8 [(0, .ref h0), (1, .int p1), (2, .int p2), (3, .int p3), (4, .ref q1), (5, .int l5)] → W p l e rmX4_leastWatch s m args below meth c H locs 0 0 (MQ below (QI G DA res.1 (wX4 G h0 a0 f0 res.2 ++ (wI G q1 n1 xs1))) args s 0 0 DA) (F0 m 3 ls [])) : ∀ (A0 : Nat → Nat → Int32) (l5 : Int32), f4_leastWatch_b3 f0 n1 xs1 p1 p2 p3  k3 A0 l5 = some res → ∀ (H : Heap) (locs : List Loc) (ls : Array Slot), WD G DA (wX4 G h0 a0 f0 A0 ++ (wI G q1 n1 xs1)) H → va_S DA s.heap H locs → lv_has ls 8 [(0, .ref h0), (1, .int p1), (2, .int p2), (3, .int p3), (4, .ref q1), (5, .int l5)] → W p l e rmX4_leastWatch s m args below meth c H locs 0 0 (MQ below (QI G DA res.1 (wX4 G h0 a0 f0 res.2 ++ (wI G q1 n1 xs1))) args s 0 0 DA) (F0 m 3 ls []) := by
  obtain ⟨hx, hb, hml, hown, hts⟩ := C0.1
  have hK := C0.2.2.2.1
  intro A0 l5 h _ _ _ hPD hS hl
  unfold f4_leastWatch_b3 at h
  refine lv_iload hx hb dX4_leastWatch_3 (lv_at hl 5 rfl) ?_
  refine lv_iload_n hx hb dX4_leastWatch_5 rfl (lv_at hl 3 rfl) ?_
  refine lv_icmp_ge (tgt := 85) hx hb dX4_leastWatch_6 (by decide) (fun cc1 => ?_) (fun cc1 => ?_)
  · have h := (if_pos cc1).symm.trans h
    refine lv_iconst (v := (-1)) hx hb dX4_leastWatch_85 (by decide) ?_
    obtain rfl := Option.some.inj h
    exact eI C0 hPD.1 hPD.2 hS rfl dX4_leastWatch_86
  · have h := (if_neg cc1).symm.trans h
    refine lv_aload_n hx hb dX4_leastWatch_9 rfl (lv_at hl 0 rfl) ?_
    refine va_get (D := G.1) (ci := 4) (v := .ref (a0 0)) (C := RX4) (T := TX4) (N := 1) hx hb hts inlX4 hown hK hPD.1 0 rfl rfl 0 (by decide) (hts _ gw_256) (fun _ h9 => h9) rfl dX4_leastWatch_10 ?_
    refine lv_iload hx hb dX4_leastWatch_13 (lv_at hl 5 rfl) ?_
    refine kNI (As := [.ref (a0 0), .int l5]) (rest := []) C0 (kt_X9_at l G (a0 0) 16 (A0 0) l5 (by decide)) gi_U_X9_at (host := "IdleCrimes") (index := 36) (List.mem_of_getElem? (i := 41) rfl) gw_6 gw_7 (n := 2) rfl (by decide +kernel) ⟨rfl, rfl, Nat.le_of_ble_eq_true rfl, Nat.le_of_ble_eq_true rfl⟩ hPD hS [1] [0, 2] [0, 2, 1] (wN := (wX4 G h0 a0 f0 A0 ++ (wI G q1 n1 xs1))) rfl rfl rfl rfl rfl hl.1 (Nat.le_of_ble_eq_true rfl) dX4_leastWatch_15 (fun H locs hPD hS => ?_)
    refine lv_istore (lv' := [(6, .int (f9_at 16 (A0 0) l5)), (0, .ref h0), (1, .int p1), (2, .int p2), (3, .int p3), (4, .ref q1), (5, .int l5)]) hx hb dX4_leastWatch_18 hl (by decide) rfl (fun ls hl => ?_)
    refine lv_iload hx hb dX4_leastWatch_20 (lv_at hl 0 rfl) ?_
    refine lv_aload hx hb dX4_leastWatch_22 (lv_at hl 5 rfl) ?_
    refine lv_iload_n hx hb dX4_leastWatch_24 rfl (lv_at hl 2 rfl) ?_
    refine kNI (As := [.ref q1, .int p1]) (rest := [.int (f9_at 16 (A0 0) l5)]) C0 (kt_X9_at l G q1 n1 xs1 p1 hn1) gi_U_X9_at (host := "IdleCrimes") (index := 36) (List.mem_of_getElem? (i := 41) rfl) gw_6 gw_7 (n := 2) rfl (by decide +kernel) ⟨rfl, rfl, Nat.le_of_ble_eq_true rfl, Nat.le_of_ble_eq_true rfl⟩ hPD hS [2] [0, 1] [0, 1, 2] (wN := (wX4 G h0 a0 f0 A0 ++ (wI G q1 n1 xs1))) rfl rfl rfl rfl rfl hl.1 (Nat.le_of_ble_eq_true rfl) dX4_leastWatch_25 (fun H locs hPD hS => ?_)
    refine lv_iand hx hb dX4_leastWatch_28 ?_
    refine lv_if_ne (tgt := 79) hx hb dX4_leastWatch_29 (by decide) (fun cc1 => ?_) (fun cc1 => ?_)
    · have h := (if_neg cc1).symm.trans h
      refine lv_iinc (v := l5 + 1) (lv' := [(5, .int (l5 + 1)), (6, .int (f9_at 16 (A0 0) l5)), (0, .ref h0), (1, .int p1), (2, .int p2), (3, .int p3), (4, .ref q1)]) hx hb dX4_leastWatch_79 hl (k := 6) rfl rfl (by decide) rfl (fun ls hl => ?_)
      refine lv_goto (tgt := 3) hx hb dX4_leastWatch_82 (by decide) ?_
      exact hk3 A0 (l5 + 1) h _ _ _ hPD hS (lv_sub hl [2, 3, 4, 5, 6, 0] rfl)
    · have h := (if_pos cc1).symm.trans h
      refine lv_aload_n hx hb dX4_leastWatch_32 rfl (lv_at hl 1 rfl) ?_
      refine va_get (D := G.1) (ci := 4) (v := .ref (a0 0)) (C := RX4) (T := TX4) (N := 1) hx hb hts inlX4 hown hK hPD.1 0 rfl rfl 0 (by decide) (hts _ gw_256) (fun _ h9 => h9) rfl dX4_leastWatch_33 ?_
      refine lv_iload hx hb dX4_leastWatch_36 (lv_at hl 6 rfl) ?_
      refine lv_iload hx hb dX4_leastWatch_38 (lv_at hl 0 rfl) ?_
      refine lv_iconst (v := 1) hx hb dX4_leastWatch_40 (by decide) ?_
      refine lv_iload_n hx hb dX4_leastWatch_41 rfl (lv_at hl 2 rfl) ?_
      refine lv_ishl hx hb dX4_leastWatch_42 ?_
      refine lv_ior hx hb dX4_leastWatch_43 ?_
      obtain ⟨z_1, ez_1, h⟩ := lvl h
      have kc := kt_X9_put l G (a0 0) 16 (A0 0) l5 ((f9_at 16 (A0 0) l5) ||| (shl 1 p1)) (by decide)
      rw [← ez_1] at kc
      clear ez_1
      refine kNV (As := [.ref (a0 0), .int l5, .int ((f9_at 16 (A0 0) l5) ||| (shl 1 p1))]) (rest := []) C0 (kc) gi_U_X9_put (host := "IdleCrimes") (index := 40) (List.mem_of_getElem? (i := 42) rfl) gw_6 gw_19 (n := 3) rfl (by decide +kernel) ⟨rfl, rfl, Nat.le_of_ble_eq_true rfl, Nat.le_of_ble_eq_true rfl⟩ hPD hS [1] [0, 2] [0, 2, 1] (wN := (wX4 G h0 a0 f0 (updA A0 0 z_1) ++ (wI G q1 n1 xs1))) rfl rfl rfl rfl rfl hl.1 (Nat.le_of_ble_eq_true rfl) dX4_leastWatch_44 (fun H locs hPD hS => ?_)
      obtain ⟨A0_2, eA0_2, h⟩ := lvl h
      have hPD : WD G DA (wX4 G h0 a0 f0 A0_2 ++ (wI G q1 n1 xs1)) H := by rw [eA0_2]; exact hPD
      clear eA0_2
      refine lv_aload_n hx hb dX4_leastWatch_47 rfl (lv_at hl 1 rfl) ?_
      refine va_get (D := G.1) (ci := 4) (v := .ref (a0 0)) (C := RX4) (T := TX4) (N := 1) hx hb hts inlX4 hown hK hPD.1 0 rfl rfl 0 (by decide) (hts _ gw_256) (fun _ h9 => h9) rfl dX4_leastWatch_48 ?_
      refine lv_aload hx hb dX4_leastWatch_51 (lv_at hl 5 rfl) ?_
      refine lv_iload_n hx hb dX4_leastWatch_53 rfl (lv_at hl 3 rfl) ?_
      refine lv_iload_n hx hb dX4_leastWatch_54 rfl (lv_at hl 4 rfl) ?_
      obtain ⟨q_3, hq_3, h⟩ := ob2 h
      refine kSI (As := [.ref (a0 0), .ref q1, .int p2, .int p3]) (rest := []) C0 (kt_X4_canFill 64 l G (a0 0) q1 16 (A0_2 0) n1 xs1 p2 p3 (by decide) hn1 hq_3) gi_S_X4_24_X4_canFill (n := 4) rfl (by decide +kernel) ⟨rfl, rfl, Nat.le_of_ble_eq_true rfl, Nat.le_of_ble_eq_true rfl⟩ hPD hS [1, 2] [0] [0, 1, 2] (wN := (wX4 G h0 a0 f0 (updA A0_2 0 q_3.2) ++ (wI G q1 n1 xs1))) rfl rfl rfl rfl rfl hl.1 (Nat.le_of_ble_eq_true rfl) dX4_leastWatch_55 (fun H locs hPD hS => ?_)
      obtain ⟨A0_4, eA0_4, h⟩ := lvl h
      have hPD : WD G DA (wX4 G h0 a0 f0 A0_4 ++ (wI G q1 n1 xs1)) H := by rw [eA0_4]; exact hPD
      clear eA0_4
      refine lv_istore (lv' := [(7, .int q_3.1), (6, .int (f9_at 16 (A0 0) l5)), (0, .ref h0), (1, .int p1), (2, .int p2), (3, .int p3), (4, .ref q1), (5, .int l5)]) hx hb dX4_leastWatch_58 hl (by decide) rfl (fun ls hl => ?_)
      refine lv_aload_n hx hb dX4_leastWatch_60 rfl (lv_at hl 2 rfl) ?_
      refine va_get (D := G.1) (ci := 4) (v := .ref (a0 0)) (C := RX4) (T := TX4) (N := 1) hx hb hts inlX4 hown hK hPD.1 0 rfl rfl 0 (by decide) (hts _ gw_256) (fun _ h9 => h9) rfl dX4_leastWatch_61 ?_
      refine lv_iload hx hb dX4_leastWatch_64 (lv_at hl 7 rfl) ?_
      refine lv_iload hx hb dX4_leastWatch_66 (lv_at hl 1 rfl) ?_
      obtain ⟨z_5, ez_5, h⟩ := lvl h
      have kc := kt_X9_put l G (a0 0) 16 (A0_4 0) l5 (f9_at 16 (A0 0) l5) (by decide)
      rw [← ez_5] at kc
      clear ez_5
      refine kNV (As := [.ref (a0 0), .int l5, .int (f9_at 16 (A0 0) l5)]) (rest := []) C0 (kc) gi_U_X9_put (host := "IdleCrimes") (index := 40) (List.mem_of_getElem? (i := 42) rfl) gw_6 gw_19 (n := 3) rfl (by decide +kernel) ⟨rfl, rfl, Nat.le_of_ble_eq_true rfl, Nat.le_of_ble_eq_true rfl⟩ hPD hS [1] [0, 2] [0, 2, 1] (wN := (wX4 G h0 a0 f0 (updA A0_4 0 z_5) ++ (wI G q1 n1 xs1))) rfl rfl rfl rfl rfl hl.1 (Nat.le_of_ble_eq_true rfl) dX4_leastWatch_68 (fun H locs hPD hS => ?_)
      obtain ⟨A0_6, eA0_6, h⟩ := lvl h
      have hPD : WD G DA (wX4 G h0 a0 f0 A0_6 ++ (wI G q1 n1 xs1)) H := by rw [eA0_6]; exact hPD
      clear eA0_6
      refine lv_iload hx hb dX4_leastWatch_71 (lv_at hl 0 rfl) ?_
      refine lv_if_eq (tgt := 79) hx hb dX4_leastWatch_73 (by decide) (fun cc1 => ?_) (fun cc1 => ?_)
      · have h := (if_pos cc1).symm.trans h
        refine lv_iinc (v := l5 + 1) (lv' := [(5, .int (l5 + 1)), (7, .int q_3.1), (6, .int (f9_at 16 (A0 0) l5)), (0, .ref h0), (1, .int p1), (2, .int p2), (3, .int p3), (4, .ref q1)]) hx hb dX4_leastWatch_79 hl (k := 7) rfl rfl (by decide) rfl (fun ls hl => ?_)
        refine lv_goto (tgt := 3) hx hb dX4_leastWatch_82 (by decide) ?_
        exact hk3 A0_6 (l5 + 1) h _ _ _ hPD hS (lv_sub hl [3, 4, 5, 6, 7, 0] rfl)
      · have h := (if_neg cc1).symm.trans h
        refine lv_iload hx hb dX4_leastWatch_76 (lv_at hl 7 rfl) ?_
        obtain rfl := Option.some.inj h
        exact eI C0 hPD.1 hPD.2 hS rfl dX4_leastWatch_78
set_option maxRecDepth 100000 in
set_option maxHeartbeats 4000000 in
theorem ww_f4_leastWatch_l3  (C0 : Cx cX4_leastWatch 8 (some .int) RX4 p s m args meth c G DA) {h0 : Nat} {a0 : Nat → Nat} {q1 : Nat} {f0 : Nat → Int32} {n1 : Nat} {xs1 : Nat → Int32} {p1 : Int32} {p2 : Int32} {p3 : Int32} (hn1 : n1 < 2147483648)  {res : Int32 × (Nat → Nat → Int32)}  : ∀ (n : Nat) (A0 : Nat → Nat → Int32) (l5 : Int32), f4_leastWatch_l3 f0 n1 xs1 p1 p2 p3  n A0 l5 = some res → ∀ (H : Heap) (locs : List Loc) (ls : Array Slot), WD G DA (wX4 G h0 a0 f0 A0 ++ (wI G q1 n1 xs1)) H → va_S DA s.heap H locs → lv_has ls 8 [(0, .ref h0), (1, .int p1), (2, .int p2), (3, .int p3), (4, .ref q1), (5, .int l5)] → W p l e rmX4_leastWatch s m args below meth c H locs 0 0 (MQ below (QI G DA res.1 (wX4 G h0 a0 f0 res.2 ++ (wI G q1 n1 xs1))) args s 0 0 DA) (F0 m 3 ls []) := by
  intro n
  induction n with
  | zero => intro A0 l5 h; cases h
  | succ n ih => intro A0 l5 h; exact ww_f4_leastWatch_b3 C0 hn1  ih A0 l5 h
set_option maxRecDepth 100000 in
set_option maxHeartbeats 4000000 in
theorem kt_X4_leastWatch (l : Launch) (G : Gp) (h0 : Nat) (a0 : Nat → Nat) (q1 : Nat) (f0 : Nat → Int32) (A0 : Nat → Nat → Int32) (n1 : Nat) (xs1 : Nat → Int32) (p1 : Int32) (p2 : Int32) (p3 : Int32) (hn1 : n1 < 2147483648) : ∀ {r : Int32 × (Nat → Nat → Int32)}, f4_leastWatch f0 A0 n1 xs1 p1 p2 p3 = some r → CtrI l yX4_leastWatch cX4_leastWatch 8 (some .int) rmX4_leastWatch G [.ref h0, .int p1, .int p2, .int p3, .ref q1] (wX4 G h0 a0 f0 A0 ++ (wI G q1 n1 xs1)) r.1 (wX4 G h0 a0 f0 r.2 ++ (wI G q1 n1 xs1)) := by
  intro res h
  refine ctrI_of (cc := cX4_leastWatch) (maxL := 8) (ret := (some .int)) (by decide +kernel) rfl (Nat.le_of_ble_eq_true rfl) (fun p e s m below meth c DA C0 hP hD ls hl => ?_)
  have hPD : WD G DA (wX4 G h0 a0 f0 A0 ++ (wI G q1 n1 xs1)) s.heap := ⟨hP, hD⟩
  have hS : va_S DA s.heap s.heap [] := va_S.rf
  have hl : lv_has ls 8 [(0, .ref h0), (1, .int p1), (2, .int p2), (3, .int p3), (4, .ref q1)] := hl
  obtain ⟨hx, hb, hml, hown, hts⟩ := C0.1
  have hK := C0.2.2.2.1
  unfold f4_leastWatch at h
  refine lv_iconst (v := 0) hx hb dX4_leastWatch_0 (by decide) ?_
  refine lv_istore (lv' := [(5, .int 0), (0, .ref h0), (1, .int p1), (2, .int p2), (3, .int p3), (4, .ref q1)]) hx hb dX4_leastWatch_1 hl (by decide) rfl (fun ls hl => ?_)
  exact ww_f4_leastWatch_l3 C0 hn1 NF A0 0 h _ _ _ hPD hS (lv_sub hl [1, 2, 3, 4, 5, 0] rfl)
abbrev rmX4_watchOf : Room := { frames := 70, cells := 0, slots := 0, locals := 1873 }
set_option maxRecDepth 100000 in
set_option maxHeartbeats 4000000 in
theorem ww_f4_watchOf_b12  (C0 : Cx cX4_watchOf 7 (some .int) RX4 p s m args meth c G DA) {h0 : Nat} {a0 : Nat → Nat} {h1 : Nat} {a1 : Nat → Nat} {f0 : Nat → Int32} {f1 : Nat → Int32} {A1 : Nat → Nat → Int32} {p1 : Int32} {p2 : Int32}  {k12 : (Nat → Nat → Int32) → Int32 → Int32 → Int32 → Option (Int32 × (Nat → Nat → Int32))} {res : Int32 × (Nat → Nat → Int32)}  (hk12 : ∀ (A0 : Nat → Nat → Int32) (l4 : Int32) (l5 : Int32) (l6 : Int32), k12 A0 l4 l5 l6 = some res → ∀ (H : Heap) (locs : List Loc) (ls : Array Slot), WD G DA (wX4 G h0 a0 f0 A0 ++ (wX1 G h1 a1 f1 A1)) H → va_S DA s.heap H locs → lv_has ls 7 [(0, .ref h0), (1, .int p1), (2, .int p2), (3, .ref h1), (4, .int l4), (5, .int l5), (6, .int l6)] → W p l e rmX4_watchOf s m args below meth c H locs 0 0 (MQ below (QI G DA res.1 (wX4 G h0 a0 f0 res.2 ++ (wX1 G h1 a1 f1 A1))) args s 0 0 DA) (F0 m 12 ls [])) : ∀ (A0 : Nat → Nat → Int32) (l4 : Int32) (l5 : Int32) (l6 : Int32), f4_watchOf_b12 f0 f1 A1 p1 p2  k12 A0 l4 l5 l6 = some res → ∀ (H : Heap) (locs : List Loc) (ls : Array Slot), WD G DA (wX4 G h0 a0 f0 A0 ++ (wX1 G h1 a1 f1 A1)) H → va_S DA s.heap H locs → lv_has ls 7 [(0, .ref h0), (1, .int p1), (2, .int p2), (3, .ref h1), (4, .int l4), (5, .int l5), (6, .int l6)] → W p l e rmX4_watchOf s m args below meth c H locs 0 0 (MQ below (QI G DA res.1 (wX4 G h0 a0 f0 res.2 ++ (wX1 G h1 a1 f1 A1))) args s 0 0 DA) (F0 m 12 ls []) := by
  obtain ⟨hx, hb, hml, hown, hts⟩ := C0.1
  have hK := C0.2.2.2.1
  intro A0 l4 l5 l6 h _ _ _ hPD hS hl
  unfold f4_watchOf_b12 at h
  refine lv_iload hx hb dX4_watchOf_12 (lv_at hl 6 rfl) ?_
  refine lv_iload_n hx hb dX4_watchOf_14 rfl (lv_at hl 1 rfl) ?_
  refine lv_icmp_gt (tgt := 90) hx hb dX4_watchOf_15 (by decide) (fun cc1 => ?_) (fun cc1 => ?_)
  · have h := (if_pos cc1).symm.trans h
    refine lv_iload hx hb dX4_watchOf_90 (lv_at hl 5 rfl) ?_
    obtain rfl := Option.some.inj h
    exact eI C0 hPD.1 hPD.2 hS rfl dX4_watchOf_92
  · have h := (if_neg cc1).symm.trans h
    refine lv_iload hx hb dX4_watchOf_18 (lv_at hl 6 rfl) ?_
    refine lv_bipush (v := 16) hx hb dX4_watchOf_20 (by decide) ?_
    refine lv_icmp_ge (tgt := 90) hx hb dX4_watchOf_22 (by decide) (fun cc1 => ?_) (fun cc1 => ?_)
    · have h := (if_pos cc1).symm.trans h
      refine lv_iload hx hb dX4_watchOf_90 (lv_at hl 5 rfl) ?_
      obtain rfl := Option.some.inj h
      exact eI C0 hPD.1 hPD.2 hS rfl dX4_watchOf_92
    · have h := (if_neg cc1).symm.trans h
      refine lv_iload hx hb dX4_watchOf_25 (lv_at hl 4 rfl) ?_
      refine lv_iload hx hb dX4_watchOf_27 (lv_at hl 6 rfl) ?_
      refine kNI (As := [.int l4, .int l6]) (rest := []) C0 (kt_X9_has l G  l4 l6) gi_U_X9_has (host := "IdleCrimes") (index := 28) (List.mem_of_getElem? (i := 40) rfl) gw_6 gw_73 (n := 2) rfl (by decide +kernel) ⟨rfl, rfl, Nat.le_of_ble_eq_true rfl, Nat.le_of_ble_eq_true rfl⟩ hPD hS [] [0, 1, 2, 3, 4, 5] [0, 1, 2, 3, 4, 5] (wN := (wX4 G h0 a0 f0 A0 ++ (wX1 G h1 a1 f1 A1))) rfl rfl rfl rfl rfl hl.1 (Nat.le_of_ble_eq_true rfl) dX4_watchOf_29 (fun H locs hPD hS => ?_)
      refine lv_if_eq (tgt := 84) hx hb dX4_watchOf_32 (by decide) (fun cc1 => ?_) (fun cc1 => ?_)
      · have h := (if_pos cc1).symm.trans h
        refine lv_iinc (v := l6 + 1) (lv' := [(6, .int (l6 + 1)), (0, .ref h0), (1, .int p1), (2, .int p2), (3, .ref h1), (4, .int l4), (5, .int l5)]) hx hb dX4_watchOf_84 hl (k := 6) rfl rfl (by decide) rfl (fun ls hl => ?_)
        refine lv_goto (tgt := 12) hx hb dX4_watchOf_87 (by decide) ?_
        exact hk12 A0 l4 l5 (l6 + 1) h _ _ _ hPD hS (lv_sub hl [1, 2, 3, 4, 5, 6, 0] rfl)
      · have h := (if_neg cc1).symm.trans h
        refine lv_iload hx hb dX4_watchOf_35 (lv_at hl 4 rfl) ?_
        refine lv_iconst (v := 1) hx hb dX4_watchOf_37 (by decide) ?_
        refine lv_iload hx hb dX4_watchOf_38 (lv_at hl 6 rfl) ?_
        refine lv_ishl hx hb dX4_watchOf_40 ?_
        refine lv_iconst (v := (-1)) hx hb dX4_watchOf_41 (by decide) ?_
        refine lv_ixor hx hb dX4_watchOf_42 ?_
        refine lv_iand hx hb dX4_watchOf_43 ?_
        refine lv_istore (lv' := [(4, .int (l4 &&& ((shl 1 l6) ^^^ (-1)))), (0, .ref h0), (1, .int p1), (2, .int p2), (3, .ref h1), (5, .int l5), (6, .int l6)]) hx hb dX4_watchOf_44 hl (by decide) rfl (fun ls hl => ?_)
        refine lv_aload_n hx hb dX4_watchOf_46 rfl (lv_at hl 1 rfl) ?_
        refine lv_iload hx hb dX4_watchOf_47 (lv_at hl 6 rfl) ?_
        refine lv_iload hx hb dX4_watchOf_49 (lv_at hl 0 rfl) ?_
        refine lv_iload_n hx hb dX4_watchOf_51 rfl (lv_at hl 3 rfl) ?_
        refine lv_aload_n hx hb dX4_watchOf_52 rfl (lv_at hl 4 rfl) ?_
        refine va_get (D := G.1) (ci := 1) (v := .ref (a1 1)) (C := RX1) (T := TX1) (N := 4) hx hb hts inlX1 hown hK hPD.1 2 rfl rfl 1 (by decide) (hts _ gw_257) (fun _ h9 => h9) rfl dX4_watchOf_53 ?_
        obtain ⟨q_1, hq_1, h⟩ := ob2 h
        refine kVI (As := [.int l6, .int (l4 &&& ((shl 1 l6) ^^^ (-1))), .int p2, .ref (a1 1)]) (rest := []) C0 (kt_X4_leastWatch l G h0 a0 (a1 1) f0 A0 16 (A1 1) l6 (l4 &&& ((shl 1 l6) ^^^ (-1))) p2 (by decide) hq_1) gi_V_X4_32_X4_leastWatch (n := 4) rfl (by decide +kernel) rfl ⟨rfl, rfl, Nat.le_of_ble_eq_true rfl, Nat.le_of_ble_eq_true rfl⟩ hPD hS 0 4 rfl rfl rfl [0, 1, 3] [2, 4, 5] [3, 4, 0, 5, 1, 2] (wN := (wX4 G h0 a0 f0 q_1.2 ++ (wX1 G h1 a1 f1 A1))) rfl rfl rfl rfl rfl hl.1 (Nat.le_of_ble_eq_true rfl) dX4_watchOf_56 (fun H locs hPD hS => ?_)
        refine lv_istore (lv' := [(5, .int q_1.1), (4, .int (l4 &&& ((shl 1 l6) ^^^ (-1)))), (0, .ref h0), (1, .int p1), (2, .int p2), (3, .ref h1), (6, .int l6)]) hx hb dX4_watchOf_59 hl (by decide) rfl (fun ls hl => ?_)
        refine lv_aload_n hx hb dX4_watchOf_61 rfl (lv_at hl 2 rfl) ?_
        refine va_get (D := G.1) (ci := 4) (v := .ref (a0 0)) (C := RX4) (T := TX4) (N := 1) hx hb hts inlX4 hown hK hPD.1 0 rfl rfl 0 (by decide) (hts _ gw_256) (fun _ h9 => h9) rfl dX4_watchOf_62 ?_
        refine lv_iload hx hb dX4_watchOf_65 (lv_at hl 0 rfl) ?_
        refine lv_aload_n hx hb dX4_watchOf_67 rfl (lv_at hl 2 rfl) ?_
        refine va_get (D := G.1) (ci := 4) (v := .ref (a0 0)) (C := RX4) (T := TX4) (N := 1) hx hb hts inlX4 hown hK hPD.1 0 rfl rfl 0 (by decide) (hts _ gw_256) (fun _ h9 => h9) rfl dX4_watchOf_68 ?_
        refine lv_iload hx hb dX4_watchOf_71 (lv_at hl 0 rfl) ?_
        refine kNI (As := [.ref (a0 0), .int q_1.1]) (rest := [.int q_1.1, .ref (a0 0)]) C0 (kt_X9_at l G (a0 0) 16 (q_1.2 0) q_1.1 (by decide)) gi_U_X9_at (host := "IdleCrimes") (index := 36) (List.mem_of_getElem? (i := 41) rfl) gw_6 gw_7 (n := 2) rfl (by decide +kernel) ⟨rfl, rfl, Nat.le_of_ble_eq_true rfl, Nat.le_of_ble_eq_true rfl⟩ hPD hS [1] [0, 2, 3, 4, 5] [0, 5, 1, 2, 3, 4] (wN := (wX4 G h0 a0 f0 q_1.2 ++ (wX1 G h1 a1 f1 A1))) rfl rfl rfl rfl rfl hl.1 (Nat.le_of_ble_eq_true rfl) dX4_watchOf_73 (fun H locs hPD hS => ?_)
        refine lv_iconst (v := 1) hx hb dX4_watchOf_76 (by decide) ?_
        refine lv_iload hx hb dX4_watchOf_77 (lv_at hl 6 rfl) ?_
        refine lv_ishl hx hb dX4_watchOf_79 ?_
        refine lv_ior hx hb dX4_watchOf_80 ?_
        obtain ⟨z_2, ez_2, h⟩ := lvl h
        have kc := kt_X9_put l G (a0 0) 16 (q_1.2 0) q_1.1 ((f9_at 16 (q_1.2 0) q_1.1) ||| (shl 1 l6)) (by decide)
        rw [← ez_2] at kc
        clear ez_2
        refine kNV (As := [.ref (a0 0), .int q_1.1, .int ((f9_at 16 (q_1.2 0) q_1.1) ||| (shl 1 l6))]) (rest := []) C0 (kc) gi_U_X9_put (host := "IdleCrimes") (index := 40) (List.mem_of_getElem? (i := 42) rfl) gw_6 gw_19 (n := 3) rfl (by decide +kernel) ⟨rfl, rfl, Nat.le_of_ble_eq_true rfl, Nat.le_of_ble_eq_true rfl⟩ hPD hS [1] [0, 2, 3, 4, 5] [0, 5, 1, 2, 3, 4] (wN := (wX4 G h0 a0 f0 (updA q_1.2 0 z_2) ++ (wX1 G h1 a1 f1 A1))) rfl rfl rfl rfl rfl hl.1 (Nat.le_of_ble_eq_true rfl) dX4_watchOf_81 (fun H locs hPD hS => ?_)
        obtain ⟨A0_3, eA0_3, h⟩ := lvl h
        have hPD : WD G DA (wX4 G h0 a0 f0 A0_3 ++ (wX1 G h1 a1 f1 A1)) H := by rw [eA0_3]; exact hPD
        clear eA0_3
        refine lv_iinc (v := l6 + 1) (lv' := [(6, .int (l6 + 1)), (5, .int q_1.1), (4, .int (l4 &&& ((shl 1 l6) ^^^ (-1)))), (0, .ref h0), (1, .int p1), (2, .int p2), (3, .ref h1)]) hx hb dX4_watchOf_84 hl (k := 6) rfl rfl (by decide) rfl (fun ls hl => ?_)
        refine lv_goto (tgt := 12) hx hb dX4_watchOf_87 (by decide) ?_
        exact hk12 A0_3 (l4 &&& ((shl 1 l6) ^^^ (-1))) q_1.1 (l6 + 1) h _ _ _ hPD hS (lv_sub hl [3, 4, 5, 6, 2, 1, 0] rfl)
set_option maxRecDepth 100000 in
set_option maxHeartbeats 4000000 in
theorem ww_f4_watchOf_l12  (C0 : Cx cX4_watchOf 7 (some .int) RX4 p s m args meth c G DA) {h0 : Nat} {a0 : Nat → Nat} {h1 : Nat} {a1 : Nat → Nat} {f0 : Nat → Int32} {f1 : Nat → Int32} {A1 : Nat → Nat → Int32} {p1 : Int32} {p2 : Int32}   {res : Int32 × (Nat → Nat → Int32)}  : ∀ (n : Nat) (A0 : Nat → Nat → Int32) (l4 : Int32) (l5 : Int32) (l6 : Int32), f4_watchOf_l12 f0 f1 A1 p1 p2  n A0 l4 l5 l6 = some res → ∀ (H : Heap) (locs : List Loc) (ls : Array Slot), WD G DA (wX4 G h0 a0 f0 A0 ++ (wX1 G h1 a1 f1 A1)) H → va_S DA s.heap H locs → lv_has ls 7 [(0, .ref h0), (1, .int p1), (2, .int p2), (3, .ref h1), (4, .int l4), (5, .int l5), (6, .int l6)] → W p l e rmX4_watchOf s m args below meth c H locs 0 0 (MQ below (QI G DA res.1 (wX4 G h0 a0 f0 res.2 ++ (wX1 G h1 a1 f1 A1))) args s 0 0 DA) (F0 m 12 ls []) := by
  intro n
  induction n with
  | zero => intro A0 l4 l5 l6 h; cases h
  | succ n ih => intro A0 l4 l5 l6 h; exact ww_f4_watchOf_b12 C0  ih A0 l4 l5 l6 h
set_option maxRecDepth 100000 in
set_option maxHeartbeats 4000000 in
theorem kt_X4_watchOf (l : Launch) (G : Gp) (h0 : Nat) (a0 : Nat → Nat) (h1 : Nat) (a1 : Nat → Nat) (f0 : Nat → Int32) (A0 : Nat → Nat → Int32) (f1 : Nat → Int32) (A1 : Nat → Nat → Int32) (p1 : Int32) (p2 : Int32) : ∀ {r : Int32 × (Nat → Nat → Int32)}, f4_watchOf f0 A0 f1 A1 p1 p2 = some r → CtrI l yX4_watchOf cX4_watchOf 7 (some .int) rmX4_watchOf G [.ref h0, .int p1, .int p2, .ref h1] (wX4 G h0 a0 f0 A0 ++ (wX1 G h1 a1 f1 A1)) r.1 (wX4 G h0 a0 f0 r.2 ++ (wX1 G h1 a1 f1 A1)) := by
  intro res h
  refine ctrI_of (cc := cX4_watchOf) (maxL := 7) (ret := (some .int)) (by decide +kernel) rfl (Nat.le_of_ble_eq_true rfl) (fun p e s m below meth c DA C0 hP hD ls hl => ?_)
  have hPD : WD G DA (wX4 G h0 a0 f0 A0 ++ (wX1 G h1 a1 f1 A1)) s.heap := ⟨hP, hD⟩
  have hS : va_S DA s.heap s.heap [] := va_S.rf
  have hl : lv_has ls 7 [(0, .ref h0), (1, .int p1), (2, .int p2), (3, .ref h1)] := hl
  obtain ⟨hx, hb, hml, hown, hts⟩ := C0.1
  have hK := C0.2.2.2.1
  unfold f4_watchOf at h
  refine lv_aload_n hx hb dX4_watchOf_0 rfl (lv_at hl 3 rfl) ?_
  refine va_get (D := G.1) (ci := 1) (v := .int (f1 0)) (C := RX1) (T := TX1) (N := 4) hx hb hts inlX1 hown hK hPD.1 2 rfl rfl 0 (by decide) (hts _ gw_258) (fun _ h9 => h9) rfl dX4_watchOf_1 ?_
  refine lv_istore (lv' := [(4, .int (f1 0)), (0, .ref h0), (1, .int p1), (2, .int p2), (3, .ref h1)]) hx hb dX4_watchOf_4 hl (by decide) rfl (fun ls hl => ?_)
  refine lv_iconst (v := (-1)) hx hb dX4_watchOf_6 (by decide) ?_
  refine lv_istore (lv' := [(5, .int (-1)), (4, .int (f1 0)), (0, .ref h0), (1, .int p1), (2, .int p2), (3, .ref h1)]) hx hb dX4_watchOf_7 hl (by decide) rfl (fun ls hl => ?_)
  refine lv_iconst (v := 0) hx hb dX4_watchOf_9 (by decide) ?_
  refine lv_istore (lv' := [(6, .int 0), (5, .int (-1)), (4, .int (f1 0)), (0, .ref h0), (1, .int p1), (2, .int p2), (3, .ref h1)]) hx hb dX4_watchOf_10 hl (by decide) rfl (fun ls hl => ?_)
  exact ww_f4_watchOf_l12 C0 NF A0 (f1 0) (-1) 0 h _ _ _ hPD hS (lv_sub hl [3, 4, 5, 6, 2, 1, 0] rfl)
abbrev rmX6_isTold : Room := { frames := 2, cells := 0, slots := 0, locals := 43 }
set_option maxRecDepth 100000 in
set_option maxHeartbeats 4000000 in
theorem kt_X6_isTold (l : Launch) (G : Gp) (h0 : Nat) (a0 : Nat → Nat) (f0 : Nat → Int32) (A0 : Nat → Nat → Int32) (p1 : Int32) : CtrI l yX6_isTold cX6_isTold 2 (some .boolean) rmX6_isTold G [.ref h0, .int p1] (wX6 G h0 a0 f0 A0) (f6_isTold f0 A0 p1) (wX6 G h0 a0 f0 A0) := by
  obtain ⟨res, h⟩ : ∃ res, f6_isTold f0 A0 p1 = res := ⟨_, rfl⟩
  rw [h]
  refine ctrI_of (cc := cX6_isTold) (maxL := 2) (ret := (some .boolean)) (by decide +kernel) rfl (Nat.le_of_ble_eq_true rfl) (fun p e s m below meth c DA C0 hP hD ls hl => ?_)
  have hPD : WD G DA (wX6 G h0 a0 f0 A0) s.heap := ⟨hP, hD⟩
  have hS : va_S DA s.heap s.heap [] := va_S.rf
  have hl : lv_has ls 2 [(0, .ref h0), (1, .int p1)] := hl
  obtain ⟨hx, hb, hml, hown, hts⟩ := C0.1
  have hK := C0.2.2.2.1
  unfold f6_isTold at h
  refine lv_iload_n hx hb dX6_isTold_0 rfl (lv_at hl 1 rfl) ?_
  refine lv_iconst (v := 0) hx hb dX6_isTold_1 (by decide) ?_
  refine lv_bipush (v := 7) hx hb dX6_isTold_2 (by decide) ?_
  refine kNI (As := [.int p1, .int 0, .int 7]) (rest := []) C0 (kt_X9_within l G  p1 0 7) gi_U_X9_within (host := "IdleCrimes") (index := 51) (List.mem_of_getElem? (i := 22) rfl) gw_6 gw_25 (n := 3) rfl (by decide +kernel) ⟨rfl, rfl, Nat.le_of_ble_eq_true rfl, Nat.le_of_ble_eq_true rfl⟩ hPD hS [] [0, 1, 2, 3, 4, 5] [0, 1, 2, 3, 4, 5] (wN := (wX6 G h0 a0 f0 A0)) rfl rfl rfl rfl rfl hl.1 (Nat.le_of_ble_eq_true rfl) dX6_isTold_4 (fun H locs hPD hS => ?_)
  refine lv_if_eq (tgt := 25) hx hb dX6_isTold_7 (by decide) (fun cc1 => ?_) (fun cc1 => ?_)
  · have h := (if_pos cc1).symm.trans h
    refine lv_iconst (v := 0) hx hb dX6_isTold_25 (by decide) ?_
    subst h
    exact eZ C0 hPD.1 hPD.2 hS rfl rfl dX6_isTold_26
  · have h := (if_neg cc1).symm.trans h
    refine lv_aload_n hx hb dX6_isTold_10 rfl (lv_at hl 0 rfl) ?_
    refine va_get (D := G.1) (ci := 6) (v := .int (f0 5)) (C := RX6) (T := TX6) (N := 10) hx hb hts inlX6 hown hK hPD.1 0 rfl rfl 5 (by decide) (hts _ gw_263) (fun _ h9 => h9) rfl dX6_isTold_11 ?_
    refine lv_iload_n hx hb dX6_isTold_14 rfl (lv_at hl 1 rfl) ?_
    refine kNI (As := [.int (f0 5), .int p1]) (rest := []) C0 (kt_X9_has l G  (f0 5) p1) gi_U_X9_has (host := "IdleCrimes") (index := 55) (List.mem_of_getElem? (i := 23) rfl) gw_6 gw_73 (n := 2) rfl (by decide +kernel) ⟨rfl, rfl, Nat.le_of_ble_eq_true rfl, Nat.le_of_ble_eq_true rfl⟩ hPD hS [] [0, 1, 2, 3, 4, 5] [0, 1, 2, 3, 4, 5] (wN := (wX6 G h0 a0 f0 A0)) rfl rfl rfl rfl rfl hl.1 (Nat.le_of_ble_eq_true rfl) dX6_isTold_15 (fun H locs hPD hS => ?_)
    refine lv_if_eq (tgt := 25) hx hb dX6_isTold_18 (by decide) (fun cc1 => ?_) (fun cc1 => ?_)
    · have h := (if_pos cc1).symm.trans h
      refine lv_iconst (v := 0) hx hb dX6_isTold_25 (by decide) ?_
      subst h
      exact eZ C0 hPD.1 hPD.2 hS rfl rfl dX6_isTold_26
    · have h := (if_neg cc1).symm.trans h
      refine lv_iconst (v := 1) hx hb dX6_isTold_21 (by decide) ?_
      refine lv_goto (tgt := 26) hx hb dX6_isTold_22 (by decide) ?_
      subst h
      exact eZ C0 hPD.1 hPD.2 hS rfl rfl dX6_isTold_26
abbrev rmX5_walk : Room := { frames := 3, cells := 0, slots := 0, locals := 64 }
set_option maxRecDepth 100000 in
set_option maxHeartbeats 4000000 in
theorem ww_f5_walk_b2  (C0 : Cx cX5_walk 6 none RX5 p s m args meth c G DA) {h0 : Nat} {a0 : Nat → Nat} {h1 : Nat} {a1 : Nat → Nat} {q2 : Nat} {g2 : Nat → Nat} {aB2 : Nat → Nat → Nat} {f0 : Nat → Int32} {f1 : Nat → Int32} {A1 : Nat → Nat → Int32} {fB2 : Nat → Nat → Int32} {AB2 : Nat → Nat → Nat → Int32}  {k2 : (Nat → Nat → Int32) → Int32 → Option ((Nat → Nat → Int32))} {res : (Nat → Nat → Int32)}  (hk2 : ∀ (A0 : Nat → Nat → Int32) (l3 : Int32), k2 A0 l3 = some res → ∀ (H : Heap) (locs : List Loc) (ls : Array Slot), WD G DA (wX6 G h0 a0 f0 A0 ++ (wX1 G h1 a1 f1 A1 ++ (wB G q2 g2 aB2 fB2 AB2))) H → va_S DA s.heap H locs → lv_has ls 6 [(0, .ref h0), (1, .ref h1), (2, .ref q2), (3, .int l3)] → W p l e rmX5_walk s m args below meth c H locs 0 0 (MQ below (QV G DA (wX6 G h0 a0 f0 res ++ (wX1 G h1 a1 f1 A1 ++ (wB G q2 g2 aB2 fB2 AB2)))) args s 0 0 DA) (F0 m 2 ls [])) : ∀ (A0 : Nat → Nat → Int32) (l3 : Int32), f5_walk_b2 f0 f1 A1 fB2 AB2  k2 A0 l3 = some res → ∀ (H : Heap) (locs : List Loc) (ls : Array Slot), WD G DA (wX6 G h0 a0 f0 A0 ++ (wX1 G h1 a1 f1 A1 ++ (wB G q2 g2 aB2 fB2 AB2))) H → va_S DA s.heap H locs → lv_has ls 6 [(0, .ref h0), (1, .ref h1), (2, .ref q2), (3, .int l3)] → W p l e rmX5_walk s m args below meth c H locs 0 0 (MQ below (QV G DA (wX6 G h0 a0 f0 res ++ (wX1 G h1 a1 f1 A1 ++ (wB G q2 g2 aB2 fB2 AB2)))) args s 0 0 DA) (F0 m 2 ls []) := by
  obtain ⟨hx, hb, hml, hown, hts⟩ := C0.1
  have hK := C0.2.2.2.1
  intro A0 l3 h _ _ _ hPD hS hl
  unfold f5_walk_b2 at h
  refine lv_iload_n hx hb dX5_walk_2 rfl (lv_at hl 3 rfl) ?_
  refine lv_aload_n hx hb dX5_walk_3 rfl (lv_at hl 2 rfl) ?_
  refine va_alen (v := 8) hx hb hK hPD.1 10 2 rfl rfl rfl dX5_walk_4 ?_
  refine lv_icmp_ge (tgt := 85) hx hb dX5_walk_5 (by decide) (fun cc1 => ?_) (fun cc1 => ?_)
  · have h := (if_pos cc1).symm.trans h
    obtain rfl := Option.some.inj h
    exact eV C0 hPD.1 hPD.2 hS dX5_walk_85
  · have h := (if_neg cc1).symm.trans h
    refine lv_aload_n hx hb dX5_walk_8 rfl (lv_at hl 2 rfl) ?_
    refine lv_iload_n hx hb dX5_walk_9 rfl (lv_at hl 3 rfl) ?_
    obtain ⟨hi_1, h⟩ := ob h
    obtain ⟨b_2, eb_2, h⟩ := lvl h
    have hb_3 := bts_lt hi_1 eb_2
    refine va_aldB hx hb hK hPD.1 10 2 rfl rfl hi_1 eb_2 dX5_walk_10 ?_
    rcases lt8 hb_3 with rfl | rfl | rfl | rfl | rfl | rfl | rfl | rfl
    · refine lv_astore (lv' := [(4, .ref (g2 0)), (0, .ref h0), (1, .ref h1), (2, .ref q2), (3, .int l3)]) hx hb dX5_walk_11 hl (by decide) rfl (fun ls hl => ?_)
      refine lv_aload hx hb dX5_walk_13 (lv_at hl 0 rfl) ?_
      refine lv_ifnull hx hb dX5_walk_15 ?_
      refine lv_aload_n hx hb dX5_walk_18 rfl (lv_at hl 1 rfl) ?_
      refine lv_iload_n hx hb dX5_walk_19 rfl (lv_at hl 4 rfl) ?_
      refine kVI (As := [.int l3]) (rest := []) C0 (kt_X6_isTold l G h0 a0 f0 A0 l3) gi_V_X5_61_X6_isTold (n := 1) rfl (by decide +kernel) rfl ⟨rfl, rfl, Nat.le_of_ble_eq_true rfl, Nat.le_of_ble_eq_true rfl⟩ hPD hS 0 6 rfl rfl rfl [0, 1, 2, 3, 4, 5] [6, 7, 8, 9, 10, 11, 12, 13, 14, 15, 16, 17, 18, 19, 20, 21, 22, 23, 24, 25, 26] [21, 22, 23, 24, 25, 26, 0, 1, 2, 3, 4, 5, 6, 7, 8, 9, 10, 11, 12, 13, 14, 15, 16, 17, 18, 19, 20] (wN := (wX6 G h0 a0 f0 A0 ++ (wX1 G h1 a1 f1 A1 ++ (wB G q2 g2 aB2 fB2 AB2)))) rfl rfl rfl rfl rfl hl.1 (Nat.le_of_ble_eq_true rfl) dX5_walk_20 (fun H locs hPD hS => ?_)
      refine lv_if_eq (tgt := 79) hx hb dX5_walk_23 (by decide) (fun cc1 => ?_) (fun cc1 => ?_)
      · have h := (if_pos cc1).symm.trans h
        refine lv_iinc (v := l3 + 1) (lv' := [(3, .int (l3 + 1)), (4, .ref (g2 0)), (0, .ref h0), (1, .ref h1), (2, .ref q2)]) hx hb dX5_walk_79 hl (k := 4) rfl rfl (by decide) rfl (fun ls hl => ?_)
        refine lv_goto (tgt := 2) hx hb dX5_walk_82 (by decide) ?_
        exact hk2 A0 (l3 + 1) h _ _ _ hPD hS (lv_sub hl [2, 3, 4, 0] rfl)
      · have h := (if_neg cc1).symm.trans h
        refine lv_aload hx hb dX5_walk_26 (lv_at hl 0 rfl) ?_
        refine lv_aload_n hx hb dX5_walk_28 rfl (lv_at hl 1 rfl) ?_
        refine va_get (D := G.1) (ci := 6) (v := .int (f0 8)) (C := RX6) (T := TX6) (N := 10) hx hb hts inlX6 hown hK hPD.1 0 rfl rfl 8 (by decide) (hts _ gw_269) (fun _ h9 => h9) rfl dX5_walk_29 ?_
        obtain ⟨q_4, hq_4, h⟩ := ob2 h
        refine kVI (As := [.int (f0 8)]) (rest := []) C0 (kt_X0_stepAt l G (g2 0) (aB2 0) (fB2 0) (AB2 0) (f0 8) hq_4) gi_V_X5_62_X0_stepAt (n := 1) rfl (by decide +kernel) rfl ⟨rfl, rfl, Nat.le_of_ble_eq_true rfl, Nat.le_of_ble_eq_true rfl⟩ hPD hS 11 0 rfl rfl rfl [11, 12] [0, 1, 2, 3, 4, 5, 6, 7, 8, 9, 10, 13, 14, 15, 16, 17, 18, 19, 20, 21, 22, 23, 24, 25, 26] [0, 1, 2, 3, 4, 5, 6, 7, 8, 9, 10, 25, 26, 11, 12, 13, 14, 15, 16, 17, 18, 19, 20, 21, 22, 23, 24] (wN := (wX6 G h0 a0 f0 A0 ++ (wX1 G h1 a1 f1 A1 ++ (wB G q2 g2 aB2 fB2 AB2)))) rfl rfl rfl rfl rfl hl.1 (Nat.le_of_ble_eq_true rfl) dX5_walk_32 (fun H locs hPD hS => ?_)
        refine lv_istore (lv' := [(5, .int q_4), (4, .ref (g2 0)), (0, .ref h0), (1, .ref h1), (2, .ref q2), (3, .int l3)]) hx hb dX5_walk_35 hl (by decide) rfl (fun ls hl => ?_)
        refine lv_aload_n hx hb dX5_walk_37 rfl (lv_at hl 3 rfl) ?_
        refine lv_iload hx hb dX5_walk_38 (lv_at hl 0 rfl) ?_
        refine kVI (As := [.int q_4]) (rest := []) C0 (kt_X1_isTold l G h1 a1 f1 A1 q_4) gi_V_X5_40_X1_isTold (n := 1) rfl (by decide +kernel) rfl ⟨rfl, rfl, Nat.le_of_ble_eq_true rfl, Nat.le_of_ble_eq_true rfl⟩ hPD hS 6 1 rfl rfl rfl [6, 7, 8, 9] [0, 1, 2, 3, 4, 5, 10, 11, 12, 13, 14, 15, 16, 17, 18, 19, 20, 21, 22, 23, 24, 25, 26] [0, 1, 2, 3, 4, 5, 23, 24, 25, 26, 6, 7, 8, 9, 10, 11, 12, 13, 14, 15, 16, 17, 18, 19, 20, 21, 22] (wN := (wX6 G h0 a0 f0 A0 ++ (wX1 G h1 a1 f1 A1 ++ (wB G q2 g2 aB2 fB2 AB2)))) rfl rfl rfl rfl rfl hl.1 (Nat.le_of_ble_eq_true rfl) dX5_walk_40 (fun H locs hPD hS => ?_)
        refine lv_if_eq (tgt := 79) hx hb dX5_walk_43 (by decide) (fun cc1 => ?_) (fun cc1 => ?_)
        · have h := (if_pos cc1).symm.trans h
          refine lv_iinc (v := l3 + 1) (lv' := [(3, .int (l3 + 1)), (5, .int q_4), (4, .ref (g2 0)), (0, .ref h0), (1, .ref h1), (2, .ref q2)]) hx hb dX5_walk_79 hl (k := 5) rfl rfl (by decide) rfl (fun ls hl => ?_)
          refine lv_goto (tgt := 2) hx hb dX5_walk_82 (by decide) ?_
          exact hk2 A0 (l3 + 1) h _ _ _ hPD hS (lv_sub hl [3, 4, 5, 0] rfl)
        · have h := (if_neg cc1).symm.trans h
          refine lv_aload_n hx hb dX5_walk_46 rfl (lv_at hl 3 rfl) ?_
          refine va_get (D := G.1) (ci := 1) (v := .ref (a1 1)) (C := RX1) (T := TX1) (N := 4) hx hb hts inlX1 hown hK hPD.1 6 rfl rfl 1 (by decide) (hts _ gw_275) (fun _ h9 => h9) rfl dX5_walk_47 ?_
          refine lv_aload_n hx hb dX5_walk_50 rfl (lv_at hl 2 rfl) ?_
          refine va_get (D := G.1) (ci := 6) (v := .ref (a0 3)) (C := RX6) (T := TX6) (N := 10) hx hb hts inlX6 hown hK hPD.1 0 rfl rfl 3 (by decide) (hts _ gw_276) (fun _ h9 => h9) rfl dX5_walk_51 ?_
          refine lv_iload_n hx hb dX5_walk_54 rfl (lv_at hl 5 rfl) ?_
          refine kNI (As := [.ref (a0 3), .int l3]) (rest := [.ref (a1 1)]) C0 (kt_X9_at l G (a0 3) 8 (A0 3) l3 (by decide)) gi_U_X9_at (host := "IdleCrimes") (index := 49) (List.mem_of_getElem? (i := 24) rfl) gw_6 gw_7 (n := 2) rfl (by decide +kernel) ⟨rfl, rfl, Nat.le_of_ble_eq_true rfl, Nat.le_of_ble_eq_true rfl⟩ hPD hS [4] [0, 1, 2, 3, 5, 6, 7, 8, 9, 10, 11, 12, 13, 14, 15, 16, 17, 18, 19, 20, 21, 22, 23, 24, 25, 26] [0, 1, 2, 3, 26, 4, 5, 6, 7, 8, 9, 10, 11, 12, 13, 14, 15, 16, 17, 18, 19, 20, 21, 22, 23, 24, 25] (wN := (wX6 G h0 a0 f0 A0 ++ (wX1 G h1 a1 f1 A1 ++ (wB G q2 g2 aB2 fB2 AB2)))) rfl rfl rfl rfl rfl hl.1 (Nat.le_of_ble_eq_true rfl) dX5_walk_55 (fun H locs hPD hS => ?_)
          refine kNI (As := [.ref (a1 1), .int (f9_at 8 (A0 3) l3)]) (rest := []) C0 (kt_X9_at l G (a1 1) 16 (A1 1) (f9_at 8 (A0 3) l3) (by decide)) gi_U_X9_at (host := "IdleCrimes") (index := 49) (List.mem_of_getElem? (i := 24) rfl) gw_6 gw_7 (n := 2) rfl (by decide +kernel) ⟨rfl, rfl, Nat.le_of_ble_eq_true rfl, Nat.le_of_ble_eq_true rfl⟩ hPD hS [7] [0, 1, 2, 3, 4, 5, 6, 8, 9, 10, 11, 12, 13, 14, 15, 16, 17, 18, 19, 20, 21, 22, 23, 24, 25, 26] [0, 1, 2, 3, 4, 5, 6, 26, 7, 8, 9, 10, 11, 12, 13, 14, 15, 16, 17, 18, 19, 20, 21, 22, 23, 24, 25] (wN := (wX6 G h0 a0 f0 A0 ++ (wX1 G h1 a1 f1 A1 ++ (wB G q2 g2 aB2 fB2 AB2)))) rfl rfl rfl rfl rfl hl.1 (Nat.le_of_ble_eq_true rfl) dX5_walk_58 (fun H locs hPD hS => ?_)
          refine lv_iload hx hb dX5_walk_61 (lv_at hl 0 rfl) ?_
          refine kNI (As := [.int (f9_at 16 (A1 1) (f9_at 8 (A0 3) l3)), .int q_4]) (rest := []) C0 (kt_X9_has l G  (f9_at 16 (A1 1) (f9_at 8 (A0 3) l3)) q_4) gi_U_X9_has (host := "IdleCrimes") (index := 71) (List.mem_of_getElem? (i := 25) rfl) gw_6 gw_73 (n := 2) rfl (by decide +kernel) ⟨rfl, rfl, Nat.le_of_ble_eq_true rfl, Nat.le_of_ble_eq_true rfl⟩ hPD hS [] [0, 1, 2, 3, 4, 5, 6, 7, 8, 9, 10, 11, 12, 13, 14, 15, 16, 17, 18, 19, 20, 21, 22, 23, 24, 25, 26] [0, 1, 2, 3, 4, 5, 6, 7, 8, 9, 10, 11, 12, 13, 14, 15, 16, 17, 18, 19, 20, 21, 22, 23, 24, 25, 26] (wN := (wX6 G h0 a0 f0 A0 ++ (wX1 G h1 a1 f1 A1 ++ (wB G q2 g2 aB2 fB2 AB2)))) rfl rfl rfl rfl rfl hl.1 (Nat.le_of_ble_eq_true rfl) dX5_walk_63 (fun H locs hPD hS => ?_)
          refine lv_if_eq (tgt := 79) hx hb dX5_walk_66 (by decide) (fun cc1 => ?_) (fun cc1 => ?_)
          · have h := (if_pos cc1).symm.trans h
            refine lv_iinc (v := l3 + 1) (lv' := [(3, .int (l3 + 1)), (5, .int q_4), (4, .ref (g2 0)), (0, .ref h0), (1, .ref h1), (2, .ref q2)]) hx hb dX5_walk_79 hl (k := 5) rfl rfl (by decide) rfl (fun ls hl => ?_)
            refine lv_goto (tgt := 2) hx hb dX5_walk_82 (by decide) ?_
            exact hk2 A0 (l3 + 1) h _ _ _ hPD hS (lv_sub hl [3, 4, 5, 0] rfl)
          · have h := (if_neg cc1).symm.trans h
            refine lv_aload_n hx hb dX5_walk_69 rfl (lv_at hl 2 rfl) ?_
            refine va_get (D := G.1) (ci := 6) (v := .ref (a0 3)) (C := RX6) (T := TX6) (N := 10) hx hb hts inlX6 hown hK hPD.1 0 rfl rfl 3 (by decide) (hts _ gw_276) (fun _ h9 => h9) rfl dX5_walk_70 ?_
            refine lv_iload_n hx hb dX5_walk_73 rfl (lv_at hl 5 rfl) ?_
            refine lv_iload hx hb dX5_walk_74 (lv_at hl 0 rfl) ?_
            obtain ⟨z_5, ez_5, h⟩ := lvl h
            have kc := kt_X9_put l G (a0 3) 8 (A0 3) l3 q_4 (by decide)
            rw [← ez_5] at kc
            clear ez_5
            refine kNV (As := [.ref (a0 3), .int l3, .int q_4]) (rest := []) C0 (kc) gi_U_X9_put (host := "IdleCrimes") (index := 75) (List.mem_of_getElem? (i := 26) rfl) gw_6 gw_19 (n := 3) rfl (by decide +kernel) ⟨rfl, rfl, Nat.le_of_ble_eq_true rfl, Nat.le_of_ble_eq_true rfl⟩ hPD hS [4] [0, 1, 2, 3, 5, 6, 7, 8, 9, 10, 11, 12, 13, 14, 15, 16, 17, 18, 19, 20, 21, 22, 23, 24, 25, 26] [0, 1, 2, 3, 26, 4, 5, 6, 7, 8, 9, 10, 11, 12, 13, 14, 15, 16, 17, 18, 19, 20, 21, 22, 23, 24, 25] (wN := (wX6 G h0 a0 f0 (updA A0 3 z_5) ++ (wX1 G h1 a1 f1 A1 ++ (wB G q2 g2 aB2 fB2 AB2)))) rfl rfl rfl rfl rfl hl.1 (Nat.le_of_ble_eq_true rfl) dX5_walk_76 (fun H locs hPD hS => ?_)
            obtain ⟨A0_6, eA0_6, h⟩ := lvl h
            have hPD : WD G DA (wX6 G h0 a0 f0 A0_6 ++ (wX1 G h1 a1 f1 A1 ++ (wB G q2 g2 aB2 fB2 AB2))) H := by rw [eA0_6]; exact hPD
            clear eA0_6
            refine lv_iinc (v := l3 + 1) (lv' := [(3, .int (l3 + 1)), (5, .int q_4), (4, .ref (g2 0)), (0, .ref h0), (1, .ref h1), (2, .ref q2)]) hx hb dX5_walk_79 hl (k := 5) rfl rfl (by decide) rfl (fun ls hl => ?_)
            refine lv_goto (tgt := 2) hx hb dX5_walk_82 (by decide) ?_
            exact hk2 A0_6 (l3 + 1) h _ _ _ hPD hS (lv_sub hl [3, 4, 5, 0] rfl)
    · refine lv_astore (lv' := [(4, .ref (g2 1)), (0, .ref h0), (1, .ref h1), (2, .ref q2), (3, .int l3)]) hx hb dX5_walk_11 hl (by decide) rfl (fun ls hl => ?_)
      refine lv_aload hx hb dX5_walk_13 (lv_at hl 0 rfl) ?_
      refine lv_ifnull hx hb dX5_walk_15 ?_
      refine lv_aload_n hx hb dX5_walk_18 rfl (lv_at hl 1 rfl) ?_
      refine lv_iload_n hx hb dX5_walk_19 rfl (lv_at hl 4 rfl) ?_
      refine kVI (As := [.int l3]) (rest := []) C0 (kt_X6_isTold l G h0 a0 f0 A0 l3) gi_V_X5_61_X6_isTold (n := 1) rfl (by decide +kernel) rfl ⟨rfl, rfl, Nat.le_of_ble_eq_true rfl, Nat.le_of_ble_eq_true rfl⟩ hPD hS 0 6 rfl rfl rfl [0, 1, 2, 3, 4, 5] [6, 7, 8, 9, 10, 11, 12, 13, 14, 15, 16, 17, 18, 19, 20, 21, 22, 23, 24, 25, 26] [21, 22, 23, 24, 25, 26, 0, 1, 2, 3, 4, 5, 6, 7, 8, 9, 10, 11, 12, 13, 14, 15, 16, 17, 18, 19, 20] (wN := (wX6 G h0 a0 f0 A0 ++ (wX1 G h1 a1 f1 A1 ++ (wB G q2 g2 aB2 fB2 AB2)))) rfl rfl rfl rfl rfl hl.1 (Nat.le_of_ble_eq_true rfl) dX5_walk_20 (fun H locs hPD hS => ?_)
      refine lv_if_eq (tgt := 79) hx hb dX5_walk_23 (by decide) (fun cc1 => ?_) (fun cc1 => ?_)
      · have h := (if_pos cc1).symm.trans h
        refine lv_iinc (v := l3 + 1) (lv' := [(3, .int (l3 + 1)), (4, .ref (g2 1)), (0, .ref h0), (1, .ref h1), (2, .ref q2)]) hx hb dX5_walk_79 hl (k := 4) rfl rfl (by decide) rfl (fun ls hl => ?_)
        refine lv_goto (tgt := 2) hx hb dX5_walk_82 (by decide) ?_
        exact hk2 A0 (l3 + 1) h _ _ _ hPD hS (lv_sub hl [2, 3, 4, 0] rfl)
      · have h := (if_neg cc1).symm.trans h
        refine lv_aload hx hb dX5_walk_26 (lv_at hl 0 rfl) ?_
        refine lv_aload_n hx hb dX5_walk_28 rfl (lv_at hl 1 rfl) ?_
        refine va_get (D := G.1) (ci := 6) (v := .int (f0 8)) (C := RX6) (T := TX6) (N := 10) hx hb hts inlX6 hown hK hPD.1 0 rfl rfl 8 (by decide) (hts _ gw_269) (fun _ h9 => h9) rfl dX5_walk_29 ?_
        obtain ⟨q_4, hq_4, h⟩ := ob2 h
        refine kVI (As := [.int (f0 8)]) (rest := []) C0 (kt_X0_stepAt l G (g2 1) (aB2 1) (fB2 1) (AB2 1) (f0 8) hq_4) gi_V_X5_62_X0_stepAt (n := 1) rfl (by decide +kernel) rfl ⟨rfl, rfl, Nat.le_of_ble_eq_true rfl, Nat.le_of_ble_eq_true rfl⟩ hPD hS 13 0 rfl rfl rfl [13, 14] [0, 1, 2, 3, 4, 5, 6, 7, 8, 9, 10, 11, 12, 15, 16, 17, 18, 19, 20, 21, 22, 23, 24, 25, 26] [0, 1, 2, 3, 4, 5, 6, 7, 8, 9, 10, 11, 12, 25, 26, 13, 14, 15, 16, 17, 18, 19, 20, 21, 22, 23, 24] (wN := (wX6 G h0 a0 f0 A0 ++ (wX1 G h1 a1 f1 A1 ++ (wB G q2 g2 aB2 fB2 AB2)))) rfl rfl rfl rfl rfl hl.1 (Nat.le_of_ble_eq_true rfl) dX5_walk_32 (fun H locs hPD hS => ?_)
        refine lv_istore (lv' := [(5, .int q_4), (4, .ref (g2 1)), (0, .ref h0), (1, .ref h1), (2, .ref q2), (3, .int l3)]) hx hb dX5_walk_35 hl (by decide) rfl (fun ls hl => ?_)
        refine lv_aload_n hx hb dX5_walk_37 rfl (lv_at hl 3 rfl) ?_
        refine lv_iload hx hb dX5_walk_38 (lv_at hl 0 rfl) ?_
        refine kVI (As := [.int q_4]) (rest := []) C0 (kt_X1_isTold l G h1 a1 f1 A1 q_4) gi_V_X5_40_X1_isTold (n := 1) rfl (by decide +kernel) rfl ⟨rfl, rfl, Nat.le_of_ble_eq_true rfl, Nat.le_of_ble_eq_true rfl⟩ hPD hS 6 1 rfl rfl rfl [6, 7, 8, 9] [0, 1, 2, 3, 4, 5, 10, 11, 12, 13, 14, 15, 16, 17, 18, 19, 20, 21, 22, 23, 24, 25, 26] [0, 1, 2, 3, 4, 5, 23, 24, 25, 26, 6, 7, 8, 9, 10, 11, 12, 13, 14, 15, 16, 17, 18, 19, 20, 21, 22] (wN := (wX6 G h0 a0 f0 A0 ++ (wX1 G h1 a1 f1 A1 ++ (wB G q2 g2 aB2 fB2 AB2)))) rfl rfl rfl rfl rfl hl.1 (Nat.le_of_ble_eq_true rfl) dX5_walk_40 (fun H locs hPD hS => ?_)
        refine lv_if_eq (tgt := 79) hx hb dX5_walk_43 (by decide) (fun cc1 => ?_) (fun cc1 => ?_)
        · have h := (if_pos cc1).symm.trans h
          refine lv_iinc (v := l3 + 1) (lv' := [(3, .int (l3 + 1)), (5, .int q_4), (4, .ref (g2 1)), (0, .ref h0), (1, .ref h1), (2, .ref q2)]) hx hb dX5_walk_79 hl (k := 5) rfl rfl (by decide) rfl (fun ls hl => ?_)
          refine lv_goto (tgt := 2) hx hb dX5_walk_82 (by decide) ?_
          exact hk2 A0 (l3 + 1) h _ _ _ hPD hS (lv_sub hl [3, 4, 5, 0] rfl)
        · have h := (if_neg cc1).symm.trans h
          refine lv_aload_n hx hb dX5_walk_46 rfl (lv_at hl 3 rfl) ?_
          refine va_get (D := G.1) (ci := 1) (v := .ref (a1 1)) (C := RX1) (T := TX1) (N := 4) hx hb hts inlX1 hown hK hPD.1 6 rfl rfl 1 (by decide) (hts _ gw_275) (fun _ h9 => h9) rfl dX5_walk_47 ?_
          refine lv_aload_n hx hb dX5_walk_50 rfl (lv_at hl 2 rfl) ?_
          refine va_get (D := G.1) (ci := 6) (v := .ref (a0 3)) (C := RX6) (T := TX6) (N := 10) hx hb hts inlX6 hown hK hPD.1 0 rfl rfl 3 (by decide) (hts _ gw_276) (fun _ h9 => h9) rfl dX5_walk_51 ?_
          refine lv_iload_n hx hb dX5_walk_54 rfl (lv_at hl 5 rfl) ?_
          refine kNI (As := [.ref (a0 3), .int l3]) (rest := [.ref (a1 1)]) C0 (kt_X9_at l G (a0 3) 8 (A0 3) l3 (by decide)) gi_U_X9_at (host := "IdleCrimes") (index := 49) (List.mem_of_getElem? (i := 24) rfl) gw_6 gw_7 (n := 2) rfl (by decide +kernel) ⟨rfl, rfl, Nat.le_of_ble_eq_true rfl, Nat.le_of_ble_eq_true rfl⟩ hPD hS [4] [0, 1, 2, 3, 5, 6, 7, 8, 9, 10, 11, 12, 13, 14, 15, 16, 17, 18, 19, 20, 21, 22, 23, 24, 25, 26] [0, 1, 2, 3, 26, 4, 5, 6, 7, 8, 9, 10, 11, 12, 13, 14, 15, 16, 17, 18, 19, 20, 21, 22, 23, 24, 25] (wN := (wX6 G h0 a0 f0 A0 ++ (wX1 G h1 a1 f1 A1 ++ (wB G q2 g2 aB2 fB2 AB2)))) rfl rfl rfl rfl rfl hl.1 (Nat.le_of_ble_eq_true rfl) dX5_walk_55 (fun H locs hPD hS => ?_)
          refine kNI (As := [.ref (a1 1), .int (f9_at 8 (A0 3) l3)]) (rest := []) C0 (kt_X9_at l G (a1 1) 16 (A1 1) (f9_at 8 (A0 3) l3) (by decide)) gi_U_X9_at (host := "IdleCrimes") (index := 49) (List.mem_of_getElem? (i := 24) rfl) gw_6 gw_7 (n := 2) rfl (by decide +kernel) ⟨rfl, rfl, Nat.le_of_ble_eq_true rfl, Nat.le_of_ble_eq_true rfl⟩ hPD hS [7] [0, 1, 2, 3, 4, 5, 6, 8, 9, 10, 11, 12, 13, 14, 15, 16, 17, 18, 19, 20, 21, 22, 23, 24, 25, 26] [0, 1, 2, 3, 4, 5, 6, 26, 7, 8, 9, 10, 11, 12, 13, 14, 15, 16, 17, 18, 19, 20, 21, 22, 23, 24, 25] (wN := (wX6 G h0 a0 f0 A0 ++ (wX1 G h1 a1 f1 A1 ++ (wB G q2 g2 aB2 fB2 AB2)))) rfl rfl rfl rfl rfl hl.1 (Nat.le_of_ble_eq_true rfl) dX5_walk_58 (fun H locs hPD hS => ?_)
          refine lv_iload hx hb dX5_walk_61 (lv_at hl 0 rfl) ?_
          refine kNI (As := [.int (f9_at 16 (A1 1) (f9_at 8 (A0 3) l3)), .int q_4]) (rest := []) C0 (kt_X9_has l G  (f9_at 16 (A1 1) (f9_at 8 (A0 3) l3)) q_4) gi_U_X9_has (host := "IdleCrimes") (index := 71) (List.mem_of_getElem? (i := 25) rfl) gw_6 gw_73 (n := 2) rfl (by decide +kernel) ⟨rfl, rfl, Nat.le_of_ble_eq_true rfl, Nat.le_of_ble_eq_true rfl⟩ hPD hS [] [0, 1, 2, 3, 4, 5, 6, 7, 8, 9, 10, 11, 12, 13, 14, 15, 16, 17, 18, 19, 20, 21, 22, 23, 24, 25, 26] [0, 1, 2, 3, 4, 5, 6, 7, 8, 9, 10, 11, 12, 13, 14, 15, 16, 17, 18, 19, 20, 21, 22, 23, 24, 25, 26] (wN := (wX6 G h0 a0 f0 A0 ++ (wX1 G h1 a1 f1 A1 ++ (wB G q2 g2 aB2 fB2 AB2)))) rfl rfl rfl rfl rfl hl.1 (Nat.le_of_ble_eq_true rfl) dX5_walk_63 (fun H locs hPD hS => ?_)
          refine lv_if_eq (tgt := 79) hx hb dX5_walk_66 (by decide) (fun cc1 => ?_) (fun cc1 => ?_)
          · have h := (if_pos cc1).symm.trans h
            refine lv_iinc (v := l3 + 1) (lv' := [(3, .int (l3 + 1)), (5, .int q_4), (4, .ref (g2 1)), (0, .ref h0), (1, .ref h1), (2, .ref q2)]) hx hb dX5_walk_79 hl (k := 5) rfl rfl (by decide) rfl (fun ls hl => ?_)
            refine lv_goto (tgt := 2) hx hb dX5_walk_82 (by decide) ?_
            exact hk2 A0 (l3 + 1) h _ _ _ hPD hS (lv_sub hl [3, 4, 5, 0] rfl)
          · have h := (if_neg cc1).symm.trans h
            refine lv_aload_n hx hb dX5_walk_69 rfl (lv_at hl 2 rfl) ?_
            refine va_get (D := G.1) (ci := 6) (v := .ref (a0 3)) (C := RX6) (T := TX6) (N := 10) hx hb hts inlX6 hown hK hPD.1 0 rfl rfl 3 (by decide) (hts _ gw_276) (fun _ h9 => h9) rfl dX5_walk_70 ?_
            refine lv_iload_n hx hb dX5_walk_73 rfl (lv_at hl 5 rfl) ?_
            refine lv_iload hx hb dX5_walk_74 (lv_at hl 0 rfl) ?_
            obtain ⟨z_5, ez_5, h⟩ := lvl h
            have kc := kt_X9_put l G (a0 3) 8 (A0 3) l3 q_4 (by decide)
            rw [← ez_5] at kc
            clear ez_5
            refine kNV (As := [.ref (a0 3), .int l3, .int q_4]) (rest := []) C0 (kc) gi_U_X9_put (host := "IdleCrimes") (index := 75) (List.mem_of_getElem? (i := 26) rfl) gw_6 gw_19 (n := 3) rfl (by decide +kernel) ⟨rfl, rfl, Nat.le_of_ble_eq_true rfl, Nat.le_of_ble_eq_true rfl⟩ hPD hS [4] [0, 1, 2, 3, 5, 6, 7, 8, 9, 10, 11, 12, 13, 14, 15, 16, 17, 18, 19, 20, 21, 22, 23, 24, 25, 26] [0, 1, 2, 3, 26, 4, 5, 6, 7, 8, 9, 10, 11, 12, 13, 14, 15, 16, 17, 18, 19, 20, 21, 22, 23, 24, 25] (wN := (wX6 G h0 a0 f0 (updA A0 3 z_5) ++ (wX1 G h1 a1 f1 A1 ++ (wB G q2 g2 aB2 fB2 AB2)))) rfl rfl rfl rfl rfl hl.1 (Nat.le_of_ble_eq_true rfl) dX5_walk_76 (fun H locs hPD hS => ?_)
            obtain ⟨A0_6, eA0_6, h⟩ := lvl h
            have hPD : WD G DA (wX6 G h0 a0 f0 A0_6 ++ (wX1 G h1 a1 f1 A1 ++ (wB G q2 g2 aB2 fB2 AB2))) H := by rw [eA0_6]; exact hPD
            clear eA0_6
            refine lv_iinc (v := l3 + 1) (lv' := [(3, .int (l3 + 1)), (5, .int q_4), (4, .ref (g2 1)), (0, .ref h0), (1, .ref h1), (2, .ref q2)]) hx hb dX5_walk_79 hl (k := 5) rfl rfl (by decide) rfl (fun ls hl => ?_)
            refine lv_goto (tgt := 2) hx hb dX5_walk_82 (by decide) ?_
            exact hk2 A0_6 (l3 + 1) h _ _ _ hPD hS (lv_sub hl [3, 4, 5, 0] rfl)
    · refine lv_astore (lv' := [(4, .ref (g2 2)), (0, .ref h0), (1, .ref h1), (2, .ref q2), (3, .int l3)]) hx hb dX5_walk_11 hl (by decide) rfl (fun ls hl => ?_)
      refine lv_aload hx hb dX5_walk_13 (lv_at hl 0 rfl) ?_
      refine lv_ifnull hx hb dX5_walk_15 ?_
      refine lv_aload_n hx hb dX5_walk_18 rfl (lv_at hl 1 rfl) ?_
      refine lv_iload_n hx hb dX5_walk_19 rfl (lv_at hl 4 rfl) ?_
      refine kVI (As := [.int l3]) (rest := []) C0 (kt_X6_isTold l G h0 a0 f0 A0 l3) gi_V_X5_61_X6_isTold (n := 1) rfl (by decide +kernel) rfl ⟨rfl, rfl, Nat.le_of_ble_eq_true rfl, Nat.le_of_ble_eq_true rfl⟩ hPD hS 0 6 rfl rfl rfl [0, 1, 2, 3, 4, 5] [6, 7, 8, 9, 10, 11, 12, 13, 14, 15, 16, 17, 18, 19, 20, 21, 22, 23, 24, 25, 26] [21, 22, 23, 24, 25, 26, 0, 1, 2, 3, 4, 5, 6, 7, 8, 9, 10, 11, 12, 13, 14, 15, 16, 17, 18, 19, 20] (wN := (wX6 G h0 a0 f0 A0 ++ (wX1 G h1 a1 f1 A1 ++ (wB G q2 g2 aB2 fB2 AB2)))) rfl rfl rfl rfl rfl hl.1 (Nat.le_of_ble_eq_true rfl) dX5_walk_20 (fun H locs hPD hS => ?_)
      refine lv_if_eq (tgt := 79) hx hb dX5_walk_23 (by decide) (fun cc1 => ?_) (fun cc1 => ?_)
      · have h := (if_pos cc1).symm.trans h
        refine lv_iinc (v := l3 + 1) (lv' := [(3, .int (l3 + 1)), (4, .ref (g2 2)), (0, .ref h0), (1, .ref h1), (2, .ref q2)]) hx hb dX5_walk_79 hl (k := 4) rfl rfl (by decide) rfl (fun ls hl => ?_)
        refine lv_goto (tgt := 2) hx hb dX5_walk_82 (by decide) ?_
        exact hk2 A0 (l3 + 1) h _ _ _ hPD hS (lv_sub hl [2, 3, 4, 0] rfl)
      · have h := (if_neg cc1).symm.trans h
        refine lv_aload hx hb dX5_walk_26 (lv_at hl 0 rfl) ?_
        refine lv_aload_n hx hb dX5_walk_28 rfl (lv_at hl 1 rfl) ?_
        refine va_get (D := G.1) (ci := 6) (v := .int (f0 8)) (C := RX6) (T := TX6) (N := 10) hx hb hts inlX6 hown hK hPD.1 0 rfl rfl 8 (by decide) (hts _ gw_269) (fun _ h9 => h9) rfl dX5_walk_29 ?_
        obtain ⟨q_4, hq_4, h⟩ := ob2 h
        refine kVI (As := [.int (f0 8)]) (rest := []) C0 (kt_X0_stepAt l G (g2 2) (aB2 2) (fB2 2) (AB2 2) (f0 8) hq_4) gi_V_X5_62_X0_stepAt (n := 1) rfl (by decide +kernel) rfl ⟨rfl, rfl, Nat.le_of_ble_eq_true rfl, Nat.le_of_ble_eq_true rfl⟩ hPD hS 15 0 rfl rfl rfl [15, 16] [0, 1, 2, 3, 4, 5, 6, 7, 8, 9, 10, 11, 12, 13, 14, 17, 18, 19, 20, 21, 22, 23, 24, 25, 26] [0, 1, 2, 3, 4, 5, 6, 7, 8, 9, 10, 11, 12, 13, 14, 25, 26, 15, 16, 17, 18, 19, 20, 21, 22, 23, 24] (wN := (wX6 G h0 a0 f0 A0 ++ (wX1 G h1 a1 f1 A1 ++ (wB G q2 g2 aB2 fB2 AB2)))) rfl rfl rfl rfl rfl hl.1 (Nat.le_of_ble_eq_true rfl) dX5_walk_32 (fun H locs hPD hS => ?_)
        refine lv_istore (lv' := [(5, .int q_4), (4, .ref (g2 2)), (0, .ref h0), (1, .ref h1), (2, .ref q2), (3, .int l3)]) hx hb dX5_walk_35 hl (by decide) rfl (fun ls hl => ?_)
        refine lv_aload_n hx hb dX5_walk_37 rfl (lv_at hl 3 rfl) ?_
        refine lv_iload hx hb dX5_walk_38 (lv_at hl 0 rfl) ?_
        refine kVI (As := [.int q_4]) (rest := []) C0 (kt_X1_isTold l G h1 a1 f1 A1 q_4) gi_V_X5_40_X1_isTold (n := 1) rfl (by decide +kernel) rfl ⟨rfl, rfl, Nat.le_of_ble_eq_true rfl, Nat.le_of_ble_eq_true rfl⟩ hPD hS 6 1 rfl rfl rfl [6, 7, 8, 9] [0, 1, 2, 3, 4, 5, 10, 11, 12, 13, 14, 15, 16, 17, 18, 19, 20, 21, 22, 23, 24, 25, 26] [0, 1, 2, 3, 4, 5, 23, 24, 25, 26, 6, 7, 8, 9, 10, 11, 12, 13, 14, 15, 16, 17, 18, 19, 20, 21, 22] (wN := (wX6 G h0 a0 f0 A0 ++ (wX1 G h1 a1 f1 A1 ++ (wB G q2 g2 aB2 fB2 AB2)))) rfl rfl rfl rfl rfl hl.1 (Nat.le_of_ble_eq_true rfl) dX5_walk_40 (fun H locs hPD hS => ?_)
        refine lv_if_eq (tgt := 79) hx hb dX5_walk_43 (by decide) (fun cc1 => ?_) (fun cc1 => ?_)
        · have h := (if_pos cc1).symm.trans h
          refine lv_iinc (v := l3 + 1) (lv' := [(3, .int (l3 + 1)), (5, .int q_4), (4, .ref (g2 2)), (0, .ref h0), (1, .ref h1), (2, .ref q2)]) hx hb dX5_walk_79 hl (k := 5) rfl rfl (by decide) rfl (fun ls hl => ?_)
          refine lv_goto (tgt := 2) hx hb dX5_walk_82 (by decide) ?_
          exact hk2 A0 (l3 + 1) h _ _ _ hPD hS (lv_sub hl [3, 4, 5, 0] rfl)
        · have h := (if_neg cc1).symm.trans h
          refine lv_aload_n hx hb dX5_walk_46 rfl (lv_at hl 3 rfl) ?_
          refine va_get (D := G.1) (ci := 1) (v := .ref (a1 1)) (C := RX1) (T := TX1) (N := 4) hx hb hts inlX1 hown hK hPD.1 6 rfl rfl 1 (by decide) (hts _ gw_275) (fun _ h9 => h9) rfl dX5_walk_47 ?_
          refine lv_aload_n hx hb dX5_walk_50 rfl (lv_at hl 2 rfl) ?_
          refine va_get (D := G.1) (ci := 6) (v := .ref (a0 3)) (C := RX6) (T := TX6) (N := 10) hx hb hts inlX6 hown hK hPD.1 0 rfl rfl 3 (by decide) (hts _ gw_276) (fun _ h9 => h9) rfl dX5_walk_51 ?_
          refine lv_iload_n hx hb dX5_walk_54 rfl (lv_at hl 5 rfl) ?_
          refine kNI (As := [.ref (a0 3), .int l3]) (rest := [.ref (a1 1)]) C0 (kt_X9_at l G (a0 3) 8 (A0 3) l3 (by decide)) gi_U_X9_at (host := "IdleCrimes") (index := 49) (List.mem_of_getElem? (i := 24) rfl) gw_6 gw_7 (n := 2) rfl (by decide +kernel) ⟨rfl, rfl, Nat.le_of_ble_eq_true rfl, Nat.le_of_ble_eq_true rfl⟩ hPD hS [4] [0, 1, 2, 3, 5, 6, 7, 8, 9, 10, 11, 12, 13, 14, 15, 16, 17, 18, 19, 20, 21, 22, 23, 24, 25, 26] [0, 1, 2, 3, 26, 4, 5, 6, 7, 8, 9, 10, 11, 12, 13, 14, 15, 16, 17, 18, 19, 20, 21, 22, 23, 24, 25] (wN := (wX6 G h0 a0 f0 A0 ++ (wX1 G h1 a1 f1 A1 ++ (wB G q2 g2 aB2 fB2 AB2)))) rfl rfl rfl rfl rfl hl.1 (Nat.le_of_ble_eq_true rfl) dX5_walk_55 (fun H locs hPD hS => ?_)
          refine kNI (As := [.ref (a1 1), .int (f9_at 8 (A0 3) l3)]) (rest := []) C0 (kt_X9_at l G (a1 1) 16 (A1 1) (f9_at 8 (A0 3) l3) (by decide)) gi_U_X9_at (host := "IdleCrimes") (index := 49) (List.mem_of_getElem? (i := 24) rfl) gw_6 gw_7 (n := 2) rfl (by decide +kernel) ⟨rfl, rfl, Nat.le_of_ble_eq_true rfl, Nat.le_of_ble_eq_true rfl⟩ hPD hS [7] [0, 1, 2, 3, 4, 5, 6, 8, 9, 10, 11, 12, 13, 14, 15, 16, 17, 18, 19, 20, 21, 22, 23, 24, 25, 26] [0, 1, 2, 3, 4, 5, 6, 26, 7, 8, 9, 10, 11, 12, 13, 14, 15, 16, 17, 18, 19, 20, 21, 22, 23, 24, 25] (wN := (wX6 G h0 a0 f0 A0 ++ (wX1 G h1 a1 f1 A1 ++ (wB G q2 g2 aB2 fB2 AB2)))) rfl rfl rfl rfl rfl hl.1 (Nat.le_of_ble_eq_true rfl) dX5_walk_58 (fun H locs hPD hS => ?_)
          refine lv_iload hx hb dX5_walk_61 (lv_at hl 0 rfl) ?_
          refine kNI (As := [.int (f9_at 16 (A1 1) (f9_at 8 (A0 3) l3)), .int q_4]) (rest := []) C0 (kt_X9_has l G  (f9_at 16 (A1 1) (f9_at 8 (A0 3) l3)) q_4) gi_U_X9_has (host := "IdleCrimes") (index := 71) (List.mem_of_getElem? (i := 25) rfl) gw_6 gw_73 (n := 2) rfl (by decide +kernel) ⟨rfl, rfl, Nat.le_of_ble_eq_true rfl, Nat.le_of_ble_eq_true rfl⟩ hPD hS [] [0, 1, 2, 3, 4, 5, 6, 7, 8, 9, 10, 11, 12, 13, 14, 15, 16, 17, 18, 19, 20, 21, 22, 23, 24, 25, 26] [0, 1, 2, 3, 4, 5, 6, 7, 8, 9, 10, 11, 12, 13, 14, 15, 16, 17, 18, 19, 20, 21, 22, 23, 24, 25, 26] (wN := (wX6 G h0 a0 f0 A0 ++ (wX1 G h1 a1 f1 A1 ++ (wB G q2 g2 aB2 fB2 AB2)))) rfl rfl rfl rfl rfl hl.1 (Nat.le_of_ble_eq_true rfl) dX5_walk_63 (fun H locs hPD hS => ?_)
          refine lv_if_eq (tgt := 79) hx hb dX5_walk_66 (by decide) (fun cc1 => ?_) (fun cc1 => ?_)
          · have h := (if_pos cc1).symm.trans h
            refine lv_iinc (v := l3 + 1) (lv' := [(3, .int (l3 + 1)), (5, .int q_4), (4, .ref (g2 2)), (0, .ref h0), (1, .ref h1), (2, .ref q2)]) hx hb dX5_walk_79 hl (k := 5) rfl rfl (by decide) rfl (fun ls hl => ?_)
            refine lv_goto (tgt := 2) hx hb dX5_walk_82 (by decide) ?_
            exact hk2 A0 (l3 + 1) h _ _ _ hPD hS (lv_sub hl [3, 4, 5, 0] rfl)
          · have h := (if_neg cc1).symm.trans h
            refine lv_aload_n hx hb dX5_walk_69 rfl (lv_at hl 2 rfl) ?_
            refine va_get (D := G.1) (ci := 6) (v := .ref (a0 3)) (C := RX6) (T := TX6) (N := 10) hx hb hts inlX6 hown hK hPD.1 0 rfl rfl 3 (by decide) (hts _ gw_276) (fun _ h9 => h9) rfl dX5_walk_70 ?_
            refine lv_iload_n hx hb dX5_walk_73 rfl (lv_at hl 5 rfl) ?_
            refine lv_iload hx hb dX5_walk_74 (lv_at hl 0 rfl) ?_
            obtain ⟨z_5, ez_5, h⟩ := lvl h
            have kc := kt_X9_put l G (a0 3) 8 (A0 3) l3 q_4 (by decide)
            rw [← ez_5] at kc
            clear ez_5
            refine kNV (As := [.ref (a0 3), .int l3, .int q_4]) (rest := []) C0 (kc) gi_U_X9_put (host := "IdleCrimes") (index := 75) (List.mem_of_getElem? (i := 26) rfl) gw_6 gw_19 (n := 3) rfl (by decide +kernel) ⟨rfl, rfl, Nat.le_of_ble_eq_true rfl, Nat.le_of_ble_eq_true rfl⟩ hPD hS [4] [0, 1, 2, 3, 5, 6, 7, 8, 9, 10, 11, 12, 13, 14, 15, 16, 17, 18, 19, 20, 21, 22, 23, 24, 25, 26] [0, 1, 2, 3, 26, 4, 5, 6, 7, 8, 9, 10, 11, 12, 13, 14, 15, 16, 17, 18, 19, 20, 21, 22, 23, 24, 25] (wN := (wX6 G h0 a0 f0 (updA A0 3 z_5) ++ (wX1 G h1 a1 f1 A1 ++ (wB G q2 g2 aB2 fB2 AB2)))) rfl rfl rfl rfl rfl hl.1 (Nat.le_of_ble_eq_true rfl) dX5_walk_76 (fun H locs hPD hS => ?_)
            obtain ⟨A0_6, eA0_6, h⟩ := lvl h
            have hPD : WD G DA (wX6 G h0 a0 f0 A0_6 ++ (wX1 G h1 a1 f1 A1 ++ (wB G q2 g2 aB2 fB2 AB2))) H := by rw [eA0_6]; exact hPD
            clear eA0_6
            refine lv_iinc (v := l3 + 1) (lv' := [(3, .int (l3 + 1)), (5, .int q_4), (4, .ref (g2 2)), (0, .ref h0), (1, .ref h1), (2, .ref q2)]) hx hb dX5_walk_79 hl (k := 5) rfl rfl (by decide) rfl (fun ls hl => ?_)
            refine lv_goto (tgt := 2) hx hb dX5_walk_82 (by decide) ?_
            exact hk2 A0_6 (l3 + 1) h _ _ _ hPD hS (lv_sub hl [3, 4, 5, 0] rfl)
    · refine lv_astore (lv' := [(4, .ref (g2 3)), (0, .ref h0), (1, .ref h1), (2, .ref q2), (3, .int l3)]) hx hb dX5_walk_11 hl (by decide) rfl (fun ls hl => ?_)
      refine lv_aload hx hb dX5_walk_13 (lv_at hl 0 rfl) ?_
      refine lv_ifnull hx hb dX5_walk_15 ?_
      refine lv_aload_n hx hb dX5_walk_18 rfl (lv_at hl 1 rfl) ?_
      refine lv_iload_n hx hb dX5_walk_19 rfl (lv_at hl 4 rfl) ?_
      refine kVI (As := [.int l3]) (rest := []) C0 (kt_X6_isTold l G h0 a0 f0 A0 l3) gi_V_X5_61_X6_isTold (n := 1) rfl (by decide +kernel) rfl ⟨rfl, rfl, Nat.le_of_ble_eq_true rfl, Nat.le_of_ble_eq_true rfl⟩ hPD hS 0 6 rfl rfl rfl [0, 1, 2, 3, 4, 5] [6, 7, 8, 9, 10, 11, 12, 13, 14, 15, 16, 17, 18, 19, 20, 21, 22, 23, 24, 25, 26] [21, 22, 23, 24, 25, 26, 0, 1, 2, 3, 4, 5, 6, 7, 8, 9, 10, 11, 12, 13, 14, 15, 16, 17, 18, 19, 20] (wN := (wX6 G h0 a0 f0 A0 ++ (wX1 G h1 a1 f1 A1 ++ (wB G q2 g2 aB2 fB2 AB2)))) rfl rfl rfl rfl rfl hl.1 (Nat.le_of_ble_eq_true rfl) dX5_walk_20 (fun H locs hPD hS => ?_)
      refine lv_if_eq (tgt := 79) hx hb dX5_walk_23 (by decide) (fun cc1 => ?_) (fun cc1 => ?_)
      · have h := (if_pos cc1).symm.trans h
        refine lv_iinc (v := l3 + 1) (lv' := [(3, .int (l3 + 1)), (4, .ref (g2 3)), (0, .ref h0), (1, .ref h1), (2, .ref q2)]) hx hb dX5_walk_79 hl (k := 4) rfl rfl (by decide) rfl (fun ls hl => ?_)
        refine lv_goto (tgt := 2) hx hb dX5_walk_82 (by decide) ?_
        exact hk2 A0 (l3 + 1) h _ _ _ hPD hS (lv_sub hl [2, 3, 4, 0] rfl)
      · have h := (if_neg cc1).symm.trans h
        refine lv_aload hx hb dX5_walk_26 (lv_at hl 0 rfl) ?_
        refine lv_aload_n hx hb dX5_walk_28 rfl (lv_at hl 1 rfl) ?_
        refine va_get (D := G.1) (ci := 6) (v := .int (f0 8)) (C := RX6) (T := TX6) (N := 10) hx hb hts inlX6 hown hK hPD.1 0 rfl rfl 8 (by decide) (hts _ gw_269) (fun _ h9 => h9) rfl dX5_walk_29 ?_
        obtain ⟨q_4, hq_4, h⟩ := ob2 h
        refine kVI (As := [.int (f0 8)]) (rest := []) C0 (kt_X0_stepAt l G (g2 3) (aB2 3) (fB2 3) (AB2 3) (f0 8) hq_4) gi_V_X5_62_X0_stepAt (n := 1) rfl (by decide +kernel) rfl ⟨rfl, rfl, Nat.le_of_ble_eq_true rfl, Nat.le_of_ble_eq_true rfl⟩ hPD hS 17 0 rfl rfl rfl [17, 18] [0, 1, 2, 3, 4, 5, 6, 7, 8, 9, 10, 11, 12, 13, 14, 15, 16, 19, 20, 21, 22, 23, 24, 25, 26] [0, 1, 2, 3, 4, 5, 6, 7, 8, 9, 10, 11, 12, 13, 14, 15, 16, 25, 26, 17, 18, 19, 20, 21, 22, 23, 24] (wN := (wX6 G h0 a0 f0 A0 ++ (wX1 G h1 a1 f1 A1 ++ (wB G q2 g2 aB2 fB2 AB2)))) rfl rfl rfl rfl rfl hl.1 (Nat.le_of_ble_eq_true rfl) dX5_walk_32 (fun H locs hPD hS => ?_)
        refine lv_istore (lv' := [(5, .int q_4), (4, .ref (g2 3)), (0, .ref h0), (1, .ref h1), (2, .ref q2), (3, .int l3)]) hx hb dX5_walk_35 hl (by decide) rfl (fun ls hl => ?_)
        refine lv_aload_n hx hb dX5_walk_37 rfl (lv_at hl 3 rfl) ?_
        refine lv_iload hx hb dX5_walk_38 (lv_at hl 0 rfl) ?_
        refine kVI (As := [.int q_4]) (rest := []) C0 (kt_X1_isTold l G h1 a1 f1 A1 q_4) gi_V_X5_40_X1_isTold (n := 1) rfl (by decide +kernel) rfl ⟨rfl, rfl, Nat.le_of_ble_eq_true rfl, Nat.le_of_ble_eq_true rfl⟩ hPD hS 6 1 rfl rfl rfl [6, 7, 8, 9] [0, 1, 2, 3, 4, 5, 10, 11, 12, 13, 14, 15, 16, 17, 18, 19, 20, 21, 22, 23, 24, 25, 26] [0, 1, 2, 3, 4, 5, 23, 24, 25, 26, 6, 7, 8, 9, 10, 11, 12, 13, 14, 15, 16, 17, 18, 19, 20, 21, 22] (wN := (wX6 G h0 a0 f0 A0 ++ (wX1 G h1 a1 f1 A1 ++ (wB G q2 g2 aB2 fB2 AB2)))) rfl rfl rfl rfl rfl hl.1 (Nat.le_of_ble_eq_true rfl) dX5_walk_40 (fun H locs hPD hS => ?_)
        refine lv_if_eq (tgt := 79) hx hb dX5_walk_43 (by decide) (fun cc1 => ?_) (fun cc1 => ?_)
        · have h := (if_pos cc1).symm.trans h
          refine lv_iinc (v := l3 + 1) (lv' := [(3, .int (l3 + 1)), (5, .int q_4), (4, .ref (g2 3)), (0, .ref h0), (1, .ref h1), (2, .ref q2)]) hx hb dX5_walk_79 hl (k := 5) rfl rfl (by decide) rfl (fun ls hl => ?_)
          refine lv_goto (tgt := 2) hx hb dX5_walk_82 (by decide) ?_
          exact hk2 A0 (l3 + 1) h _ _ _ hPD hS (lv_sub hl [3, 4, 5, 0] rfl)
        · have h := (if_neg cc1).symm.trans h
          refine lv_aload_n hx hb dX5_walk_46 rfl (lv_at hl 3 rfl) ?_
          refine va_get (D := G.1) (ci := 1) (v := .ref (a1 1)) (C := RX1) (T := TX1) (N := 4) hx hb hts inlX1 hown hK hPD.1 6 rfl rfl 1 (by decide) (hts _ gw_275) (fun _ h9 => h9) rfl dX5_walk_47 ?_
          refine lv_aload_n hx hb dX5_walk_50 rfl (lv_at hl 2 rfl) ?_
          refine va_get (D := G.1) (ci := 6) (v := .ref (a0 3)) (C := RX6) (T := TX6) (N := 10) hx hb hts inlX6 hown hK hPD.1 0 rfl rfl 3 (by decide) (hts _ gw_276) (fun _ h9 => h9) rfl dX5_walk_51 ?_
          refine lv_iload_n hx hb dX5_walk_54 rfl (lv_at hl 5 rfl) ?_
          refine kNI (As := [.ref (a0 3), .int l3]) (rest := [.ref (a1 1)]) C0 (kt_X9_at l G (a0 3) 8 (A0 3) l3 (by decide)) gi_U_X9_at (host := "IdleCrimes") (index := 49) (List.mem_of_getElem? (i := 24) rfl) gw_6 gw_7 (n := 2) rfl (by decide +kernel) ⟨rfl, rfl, Nat.le_of_ble_eq_true rfl, Nat.le_of_ble_eq_true rfl⟩ hPD hS [4] [0, 1, 2, 3, 5, 6, 7, 8, 9, 10, 11, 12, 13, 14, 15, 16, 17, 18, 19, 20, 21, 22, 23, 24, 25, 26] [0, 1, 2, 3, 26, 4, 5, 6, 7, 8, 9, 10, 11, 12, 13, 14, 15, 16, 17, 18, 19, 20, 21, 22, 23, 24, 25] (wN := (wX6 G h0 a0 f0 A0 ++ (wX1 G h1 a1 f1 A1 ++ (wB G q2 g2 aB2 fB2 AB2)))) rfl rfl rfl rfl rfl hl.1 (Nat.le_of_ble_eq_true rfl) dX5_walk_55 (fun H locs hPD hS => ?_)
          refine kNI (As := [.ref (a1 1), .int (f9_at 8 (A0 3) l3)]) (rest := []) C0 (kt_X9_at l G (a1 1) 16 (A1 1) (f9_at 8 (A0 3) l3) (by decide)) gi_U_X9_at (host := "IdleCrimes") (index := 49) (List.mem_of_getElem? (i := 24) rfl) gw_6 gw_7 (n := 2) rfl (by decide +kernel) ⟨rfl, rfl, Nat.le_of_ble_eq_true rfl, Nat.le_of_ble_eq_true rfl⟩ hPD hS [7] [0, 1, 2, 3, 4, 5, 6, 8, 9, 10, 11, 12, 13, 14, 15, 16, 17, 18, 19, 20, 21, 22, 23, 24, 25, 26] [0, 1, 2, 3, 4, 5, 6, 26, 7, 8, 9, 10, 11, 12, 13, 14, 15, 16, 17, 18, 19, 20, 21, 22, 23, 24, 25] (wN := (wX6 G h0 a0 f0 A0 ++ (wX1 G h1 a1 f1 A1 ++ (wB G q2 g2 aB2 fB2 AB2)))) rfl rfl rfl rfl rfl hl.1 (Nat.le_of_ble_eq_true rfl) dX5_walk_58 (fun H locs hPD hS => ?_)
          refine lv_iload hx hb dX5_walk_61 (lv_at hl 0 rfl) ?_
          refine kNI (As := [.int (f9_at 16 (A1 1) (f9_at 8 (A0 3) l3)), .int q_4]) (rest := []) C0 (kt_X9_has l G  (f9_at 16 (A1 1) (f9_at 8 (A0 3) l3)) q_4) gi_U_X9_has (host := "IdleCrimes") (index := 71) (List.mem_of_getElem? (i := 25) rfl) gw_6 gw_73 (n := 2) rfl (by decide +kernel) ⟨rfl, rfl, Nat.le_of_ble_eq_true rfl, Nat.le_of_ble_eq_true rfl⟩ hPD hS [] [0, 1, 2, 3, 4, 5, 6, 7, 8, 9, 10, 11, 12, 13, 14, 15, 16, 17, 18, 19, 20, 21, 22, 23, 24, 25, 26] [0, 1, 2, 3, 4, 5, 6, 7, 8, 9, 10, 11, 12, 13, 14, 15, 16, 17, 18, 19, 20, 21, 22, 23, 24, 25, 26] (wN := (wX6 G h0 a0 f0 A0 ++ (wX1 G h1 a1 f1 A1 ++ (wB G q2 g2 aB2 fB2 AB2)))) rfl rfl rfl rfl rfl hl.1 (Nat.le_of_ble_eq_true rfl) dX5_walk_63 (fun H locs hPD hS => ?_)
          refine lv_if_eq (tgt := 79) hx hb dX5_walk_66 (by decide) (fun cc1 => ?_) (fun cc1 => ?_)
          · have h := (if_pos cc1).symm.trans h
            refine lv_iinc (v := l3 + 1) (lv' := [(3, .int (l3 + 1)), (5, .int q_4), (4, .ref (g2 3)), (0, .ref h0), (1, .ref h1), (2, .ref q2)]) hx hb dX5_walk_79 hl (k := 5) rfl rfl (by decide) rfl (fun ls hl => ?_)
            refine lv_goto (tgt := 2) hx hb dX5_walk_82 (by decide) ?_
            exact hk2 A0 (l3 + 1) h _ _ _ hPD hS (lv_sub hl [3, 4, 5, 0] rfl)
          · have h := (if_neg cc1).symm.trans h
            refine lv_aload_n hx hb dX5_walk_69 rfl (lv_at hl 2 rfl) ?_
            refine va_get (D := G.1) (ci := 6) (v := .ref (a0 3)) (C := RX6) (T := TX6) (N := 10) hx hb hts inlX6 hown hK hPD.1 0 rfl rfl 3 (by decide) (hts _ gw_276) (fun _ h9 => h9) rfl dX5_walk_70 ?_
            refine lv_iload_n hx hb dX5_walk_73 rfl (lv_at hl 5 rfl) ?_
            refine lv_iload hx hb dX5_walk_74 (lv_at hl 0 rfl) ?_
            obtain ⟨z_5, ez_5, h⟩ := lvl h
            have kc := kt_X9_put l G (a0 3) 8 (A0 3) l3 q_4 (by decide)
            rw [← ez_5] at kc
            clear ez_5
            refine kNV (As := [.ref (a0 3), .int l3, .int q_4]) (rest := []) C0 (kc) gi_U_X9_put (host := "IdleCrimes") (index := 75) (List.mem_of_getElem? (i := 26) rfl) gw_6 gw_19 (n := 3) rfl (by decide +kernel) ⟨rfl, rfl, Nat.le_of_ble_eq_true rfl, Nat.le_of_ble_eq_true rfl⟩ hPD hS [4] [0, 1, 2, 3, 5, 6, 7, 8, 9, 10, 11, 12, 13, 14, 15, 16, 17, 18, 19, 20, 21, 22, 23, 24, 25, 26] [0, 1, 2, 3, 26, 4, 5, 6, 7, 8, 9, 10, 11, 12, 13, 14, 15, 16, 17, 18, 19, 20, 21, 22, 23, 24, 25] (wN := (wX6 G h0 a0 f0 (updA A0 3 z_5) ++ (wX1 G h1 a1 f1 A1 ++ (wB G q2 g2 aB2 fB2 AB2)))) rfl rfl rfl rfl rfl hl.1 (Nat.le_of_ble_eq_true rfl) dX5_walk_76 (fun H locs hPD hS => ?_)
            obtain ⟨A0_6, eA0_6, h⟩ := lvl h
            have hPD : WD G DA (wX6 G h0 a0 f0 A0_6 ++ (wX1 G h1 a1 f1 A1 ++ (wB G q2 g2 aB2 fB2 AB2))) H := by rw [eA0_6]; exact hPD
            clear eA0_6
            refine lv_iinc (v := l3 + 1) (lv' := [(3, .int (l3 + 1)), (5, .int q_4), (4, .ref (g2 3)), (0, .ref h0), (1, .ref h1), (2, .ref q2)]) hx hb dX5_walk_79 hl (k := 5) rfl rfl (by decide) rfl (fun ls hl => ?_)
            refine lv_goto (tgt := 2) hx hb dX5_walk_82 (by decide) ?_
            exact hk2 A0_6 (l3 + 1) h _ _ _ hPD hS (lv_sub hl [3, 4, 5, 0] rfl)
    · refine lv_astore (lv' := [(4, .ref (g2 4)), (0, .ref h0), (1, .ref h1), (2, .ref q2), (3, .int l3)]) hx hb dX5_walk_11 hl (by decide) rfl (fun ls hl => ?_)
      refine lv_aload hx hb dX5_walk_13 (lv_at hl 0 rfl) ?_
      refine lv_ifnull hx hb dX5_walk_15 ?_
      refine lv_aload_n hx hb dX5_walk_18 rfl (lv_at hl 1 rfl) ?_
      refine lv_iload_n hx hb dX5_walk_19 rfl (lv_at hl 4 rfl) ?_
      refine kVI (As := [.int l3]) (rest := []) C0 (kt_X6_isTold l G h0 a0 f0 A0 l3) gi_V_X5_61_X6_isTold (n := 1) rfl (by decide +kernel) rfl ⟨rfl, rfl, Nat.le_of_ble_eq_true rfl, Nat.le_of_ble_eq_true rfl⟩ hPD hS 0 6 rfl rfl rfl [0, 1, 2, 3, 4, 5] [6, 7, 8, 9, 10, 11, 12, 13, 14, 15, 16, 17, 18, 19, 20, 21, 22, 23, 24, 25, 26] [21, 22, 23, 24, 25, 26, 0, 1, 2, 3, 4, 5, 6, 7, 8, 9, 10, 11, 12, 13, 14, 15, 16, 17, 18, 19, 20] (wN := (wX6 G h0 a0 f0 A0 ++ (wX1 G h1 a1 f1 A1 ++ (wB G q2 g2 aB2 fB2 AB2)))) rfl rfl rfl rfl rfl hl.1 (Nat.le_of_ble_eq_true rfl) dX5_walk_20 (fun H locs hPD hS => ?_)
      refine lv_if_eq (tgt := 79) hx hb dX5_walk_23 (by decide) (fun cc1 => ?_) (fun cc1 => ?_)
      · have h := (if_pos cc1).symm.trans h
        refine lv_iinc (v := l3 + 1) (lv' := [(3, .int (l3 + 1)), (4, .ref (g2 4)), (0, .ref h0), (1, .ref h1), (2, .ref q2)]) hx hb dX5_walk_79 hl (k := 4) rfl rfl (by decide) rfl (fun ls hl => ?_)
        refine lv_goto (tgt := 2) hx hb dX5_walk_82 (by decide) ?_
        exact hk2 A0 (l3 + 1) h _ _ _ hPD hS (lv_sub hl [2, 3, 4, 0] rfl)
      · have h := (if_neg cc1).symm.trans h
        refine lv_aload hx hb dX5_walk_26 (lv_at hl 0 rfl) ?_
        refine lv_aload_n hx hb dX5_walk_28 rfl (lv_at hl 1 rfl) ?_
        refine va_get (D := G.1) (ci := 6) (v := .int (f0 8)) (C := RX6) (T := TX6) (N := 10) hx hb hts inlX6 hown hK hPD.1 0 rfl rfl 8 (by decide) (hts _ gw_269) (fun _ h9 => h9) rfl dX5_walk_29 ?_
        obtain ⟨q_4, hq_4, h⟩ := ob2 h
        refine kVI (As := [.int (f0 8)]) (rest := []) C0 (kt_X0_stepAt l G (g2 4) (aB2 4) (fB2 4) (AB2 4) (f0 8) hq_4) gi_V_X5_62_X0_stepAt (n := 1) rfl (by decide +kernel) rfl ⟨rfl, rfl, Nat.le_of_ble_eq_true rfl, Nat.le_of_ble_eq_true rfl⟩ hPD hS 19 0 rfl rfl rfl [19, 20] [0, 1, 2, 3, 4, 5, 6, 7, 8, 9, 10, 11, 12, 13, 14, 15, 16, 17, 18, 21, 22, 23, 24, 25, 26] [0, 1, 2, 3, 4, 5, 6, 7, 8, 9, 10, 11, 12, 13, 14, 15, 16, 17, 18, 25, 26, 19, 20, 21, 22, 23, 24] (wN := (wX6 G h0 a0 f0 A0 ++ (wX1 G h1 a1 f1 A1 ++ (wB G q2 g2 aB2 fB2 AB2)))) rfl rfl rfl rfl rfl hl.1 (Nat.le_of_ble_eq_true rfl) dX5_walk_32 (fun H locs hPD hS => ?_)
        refine lv_istore (lv' := [(5, .int q_4), (4, .ref (g2 4)), (0, .ref h0), (1, .ref h1), (2, .ref q2), (3, .int l3)]) hx hb dX5_walk_35 hl (by decide) rfl (fun ls hl => ?_)
        refine lv_aload_n hx hb dX5_walk_37 rfl (lv_at hl 3 rfl) ?_
        refine lv_iload hx hb dX5_walk_38 (lv_at hl 0 rfl) ?_
        refine kVI (As := [.int q_4]) (rest := []) C0 (kt_X1_isTold l G h1 a1 f1 A1 q_4) gi_V_X5_40_X1_isTold (n := 1) rfl (by decide +kernel) rfl ⟨rfl, rfl, Nat.le_of_ble_eq_true rfl, Nat.le_of_ble_eq_true rfl⟩ hPD hS 6 1 rfl rfl rfl [6, 7, 8, 9] [0, 1, 2, 3, 4, 5, 10, 11, 12, 13, 14, 15, 16, 17, 18, 19, 20, 21, 22, 23, 24, 25, 26] [0, 1, 2, 3, 4, 5, 23, 24, 25, 26, 6, 7, 8, 9, 10, 11, 12, 13, 14, 15, 16, 17, 18, 19, 20, 21, 22] (wN := (wX6 G h0 a0 f0 A0 ++ (wX1 G h1 a1 f1 A1 ++ (wB G q2 g2 aB2 fB2 AB2)))) rfl rfl rfl rfl rfl hl.1 (Nat.le_of_ble_eq_true rfl) dX5_walk_40 (fun H locs hPD hS => ?_)
        refine lv_if_eq (tgt := 79) hx hb dX5_walk_43 (by decide) (fun cc1 => ?_) (fun cc1 => ?_)
        · have h := (if_pos cc1).symm.trans h
          refine lv_iinc (v := l3 + 1) (lv' := [(3, .int (l3 + 1)), (5, .int q_4), (4, .ref (g2 4)), (0, .ref h0), (1, .ref h1), (2, .ref q2)]) hx hb dX5_walk_79 hl (k := 5) rfl rfl (by decide) rfl (fun ls hl => ?_)
          refine lv_goto (tgt := 2) hx hb dX5_walk_82 (by decide) ?_
          exact hk2 A0 (l3 + 1) h _ _ _ hPD hS (lv_sub hl [3, 4, 5, 0] rfl)
        · have h := (if_neg cc1).symm.trans h
          refine lv_aload_n hx hb dX5_walk_46 rfl (lv_at hl 3 rfl) ?_
          refine va_get (D := G.1) (ci := 1) (v := .ref (a1 1)) (C := RX1) (T := TX1) (N := 4) hx hb hts inlX1 hown hK hPD.1 6 rfl rfl 1 (by decide) (hts _ gw_275) (fun _ h9 => h9) rfl dX5_walk_47 ?_
          refine lv_aload_n hx hb dX5_walk_50 rfl (lv_at hl 2 rfl) ?_
          refine va_get (D := G.1) (ci := 6) (v := .ref (a0 3)) (C := RX6) (T := TX6) (N := 10) hx hb hts inlX6 hown hK hPD.1 0 rfl rfl 3 (by decide) (hts _ gw_276) (fun _ h9 => h9) rfl dX5_walk_51 ?_
          refine lv_iload_n hx hb dX5_walk_54 rfl (lv_at hl 5 rfl) ?_
          refine kNI (As := [.ref (a0 3), .int l3]) (rest := [.ref (a1 1)]) C0 (kt_X9_at l G (a0 3) 8 (A0 3) l3 (by decide)) gi_U_X9_at (host := "IdleCrimes") (index := 49) (List.mem_of_getElem? (i := 24) rfl) gw_6 gw_7 (n := 2) rfl (by decide +kernel) ⟨rfl, rfl, Nat.le_of_ble_eq_true rfl, Nat.le_of_ble_eq_true rfl⟩ hPD hS [4] [0, 1, 2, 3, 5, 6, 7, 8, 9, 10, 11, 12, 13, 14, 15, 16, 17, 18, 19, 20, 21, 22, 23, 24, 25, 26] [0, 1, 2, 3, 26, 4, 5, 6, 7, 8, 9, 10, 11, 12, 13, 14, 15, 16, 17, 18, 19, 20, 21, 22, 23, 24, 25] (wN := (wX6 G h0 a0 f0 A0 ++ (wX1 G h1 a1 f1 A1 ++ (wB G q2 g2 aB2 fB2 AB2)))) rfl rfl rfl rfl rfl hl.1 (Nat.le_of_ble_eq_true rfl) dX5_walk_55 (fun H locs hPD hS => ?_)
          refine kNI (As := [.ref (a1 1), .int (f9_at 8 (A0 3) l3)]) (rest := []) C0 (kt_X9_at l G (a1 1) 16 (A1 1) (f9_at 8 (A0 3) l3) (by decide)) gi_U_X9_at (host := "IdleCrimes") (index := 49) (List.mem_of_getElem? (i := 24) rfl) gw_6 gw_7 (n := 2) rfl (by decide +kernel) ⟨rfl, rfl, Nat.le_of_ble_eq_true rfl, Nat.le_of_ble_eq_true rfl⟩ hPD hS [7] [0, 1, 2, 3, 4, 5, 6, 8, 9, 10, 11, 12, 13, 14, 15, 16, 17, 18, 19, 20, 21, 22, 23, 24, 25, 26] [0, 1, 2, 3, 4, 5, 6, 26, 7, 8, 9, 10, 11, 12, 13, 14, 15, 16, 17, 18, 19, 20, 21, 22, 23, 24, 25] (wN := (wX6 G h0 a0 f0 A0 ++ (wX1 G h1 a1 f1 A1 ++ (wB G q2 g2 aB2 fB2 AB2)))) rfl rfl rfl rfl rfl hl.1 (Nat.le_of_ble_eq_true rfl) dX5_walk_58 (fun H locs hPD hS => ?_)
          refine lv_iload hx hb dX5_walk_61 (lv_at hl 0 rfl) ?_
          refine kNI (As := [.int (f9_at 16 (A1 1) (f9_at 8 (A0 3) l3)), .int q_4]) (rest := []) C0 (kt_X9_has l G  (f9_at 16 (A1 1) (f9_at 8 (A0 3) l3)) q_4) gi_U_X9_has (host := "IdleCrimes") (index := 71) (List.mem_of_getElem? (i := 25) rfl) gw_6 gw_73 (n := 2) rfl (by decide +kernel) ⟨rfl, rfl, Nat.le_of_ble_eq_true rfl, Nat.le_of_ble_eq_true rfl⟩ hPD hS [] [0, 1, 2, 3, 4, 5, 6, 7, 8, 9, 10, 11, 12, 13, 14, 15, 16, 17, 18, 19, 20, 21, 22, 23, 24, 25, 26] [0, 1, 2, 3, 4, 5, 6, 7, 8, 9, 10, 11, 12, 13, 14, 15, 16, 17, 18, 19, 20, 21, 22, 23, 24, 25, 26] (wN := (wX6 G h0 a0 f0 A0 ++ (wX1 G h1 a1 f1 A1 ++ (wB G q2 g2 aB2 fB2 AB2)))) rfl rfl rfl rfl rfl hl.1 (Nat.le_of_ble_eq_true rfl) dX5_walk_63 (fun H locs hPD hS => ?_)
          refine lv_if_eq (tgt := 79) hx hb dX5_walk_66 (by decide) (fun cc1 => ?_) (fun cc1 => ?_)
          · have h := (if_pos cc1).symm.trans h
            refine lv_iinc (v := l3 + 1) (lv' := [(3, .int (l3 + 1)), (5, .int q_4), (4, .ref (g2 4)), (0, .ref h0), (1, .ref h1), (2, .ref q2)]) hx hb dX5_walk_79 hl (k := 5) rfl rfl (by decide) rfl (fun ls hl => ?_)
            refine lv_goto (tgt := 2) hx hb dX5_walk_82 (by decide) ?_
            exact hk2 A0 (l3 + 1) h _ _ _ hPD hS (lv_sub hl [3, 4, 5, 0] rfl)
          · have h := (if_neg cc1).symm.trans h
            refine lv_aload_n hx hb dX5_walk_69 rfl (lv_at hl 2 rfl) ?_
            refine va_get (D := G.1) (ci := 6) (v := .ref (a0 3)) (C := RX6) (T := TX6) (N := 10) hx hb hts inlX6 hown hK hPD.1 0 rfl rfl 3 (by decide) (hts _ gw_276) (fun _ h9 => h9) rfl dX5_walk_70 ?_
            refine lv_iload_n hx hb dX5_walk_73 rfl (lv_at hl 5 rfl) ?_
            refine lv_iload hx hb dX5_walk_74 (lv_at hl 0 rfl) ?_
            obtain ⟨z_5, ez_5, h⟩ := lvl h
            have kc := kt_X9_put l G (a0 3) 8 (A0 3) l3 q_4 (by decide)
            rw [← ez_5] at kc
            clear ez_5
            refine kNV (As := [.ref (a0 3), .int l3, .int q_4]) (rest := []) C0 (kc) gi_U_X9_put (host := "IdleCrimes") (index := 75) (List.mem_of_getElem? (i := 26) rfl) gw_6 gw_19 (n := 3) rfl (by decide +kernel) ⟨rfl, rfl, Nat.le_of_ble_eq_true rfl, Nat.le_of_ble_eq_true rfl⟩ hPD hS [4] [0, 1, 2, 3, 5, 6, 7, 8, 9, 10, 11, 12, 13, 14, 15, 16, 17, 18, 19, 20, 21, 22, 23, 24, 25, 26] [0, 1, 2, 3, 26, 4, 5, 6, 7, 8, 9, 10, 11, 12, 13, 14, 15, 16, 17, 18, 19, 20, 21, 22, 23, 24, 25] (wN := (wX6 G h0 a0 f0 (updA A0 3 z_5) ++ (wX1 G h1 a1 f1 A1 ++ (wB G q2 g2 aB2 fB2 AB2)))) rfl rfl rfl rfl rfl hl.1 (Nat.le_of_ble_eq_true rfl) dX5_walk_76 (fun H locs hPD hS => ?_)
            obtain ⟨A0_6, eA0_6, h⟩ := lvl h
            have hPD : WD G DA (wX6 G h0 a0 f0 A0_6 ++ (wX1 G h1 a1 f1 A1 ++ (wB G q2 g2 aB2 fB2 AB2))) H := by rw [eA0_6]; exact hPD
            clear eA0_6
            refine lv_iinc (v := l3 + 1) (lv' := [(3, .int (l3 + 1)), (5, .int q_4), (4, .ref (g2 4)), (0, .ref h0), (1, .ref h1), (2, .ref q2)]) hx hb dX5_walk_79 hl (k := 5) rfl rfl (by decide) rfl (fun ls hl => ?_)
            refine lv_goto (tgt := 2) hx hb dX5_walk_82 (by decide) ?_
            exact hk2 A0_6 (l3 + 1) h _ _ _ hPD hS (lv_sub hl [3, 4, 5, 0] rfl)
    · refine lv_astore (lv' := [(4, .ref (g2 5)), (0, .ref h0), (1, .ref h1), (2, .ref q2), (3, .int l3)]) hx hb dX5_walk_11 hl (by decide) rfl (fun ls hl => ?_)
      refine lv_aload hx hb dX5_walk_13 (lv_at hl 0 rfl) ?_
      refine lv_ifnull hx hb dX5_walk_15 ?_
      refine lv_aload_n hx hb dX5_walk_18 rfl (lv_at hl 1 rfl) ?_
      refine lv_iload_n hx hb dX5_walk_19 rfl (lv_at hl 4 rfl) ?_
      refine kVI (As := [.int l3]) (rest := []) C0 (kt_X6_isTold l G h0 a0 f0 A0 l3) gi_V_X5_61_X6_isTold (n := 1) rfl (by decide +kernel) rfl ⟨rfl, rfl, Nat.le_of_ble_eq_true rfl, Nat.le_of_ble_eq_true rfl⟩ hPD hS 0 6 rfl rfl rfl [0, 1, 2, 3, 4, 5] [6, 7, 8, 9, 10, 11, 12, 13, 14, 15, 16, 17, 18, 19, 20, 21, 22, 23, 24, 25, 26] [21, 22, 23, 24, 25, 26, 0, 1, 2, 3, 4, 5, 6, 7, 8, 9, 10, 11, 12, 13, 14, 15, 16, 17, 18, 19, 20] (wN := (wX6 G h0 a0 f0 A0 ++ (wX1 G h1 a1 f1 A1 ++ (wB G q2 g2 aB2 fB2 AB2)))) rfl rfl rfl rfl rfl hl.1 (Nat.le_of_ble_eq_true rfl) dX5_walk_20 (fun H locs hPD hS => ?_)
      refine lv_if_eq (tgt := 79) hx hb dX5_walk_23 (by decide) (fun cc1 => ?_) (fun cc1 => ?_)
      · have h := (if_pos cc1).symm.trans h
        refine lv_iinc (v := l3 + 1) (lv' := [(3, .int (l3 + 1)), (4, .ref (g2 5)), (0, .ref h0), (1, .ref h1), (2, .ref q2)]) hx hb dX5_walk_79 hl (k := 4) rfl rfl (by decide) rfl (fun ls hl => ?_)
        refine lv_goto (tgt := 2) hx hb dX5_walk_82 (by decide) ?_
        exact hk2 A0 (l3 + 1) h _ _ _ hPD hS (lv_sub hl [2, 3, 4, 0] rfl)
      · have h := (if_neg cc1).symm.trans h
        refine lv_aload hx hb dX5_walk_26 (lv_at hl 0 rfl) ?_
        refine lv_aload_n hx hb dX5_walk_28 rfl (lv_at hl 1 rfl) ?_
        refine va_get (D := G.1) (ci := 6) (v := .int (f0 8)) (C := RX6) (T := TX6) (N := 10) hx hb hts inlX6 hown hK hPD.1 0 rfl rfl 8 (by decide) (hts _ gw_269) (fun _ h9 => h9) rfl dX5_walk_29 ?_
        obtain ⟨q_4, hq_4, h⟩ := ob2 h
        refine kVI (As := [.int (f0 8)]) (rest := []) C0 (kt_X0_stepAt l G (g2 5) (aB2 5) (fB2 5) (AB2 5) (f0 8) hq_4) gi_V_X5_62_X0_stepAt (n := 1) rfl (by decide +kernel) rfl ⟨rfl, rfl, Nat.le_of_ble_eq_true rfl, Nat.le_of_ble_eq_true rfl⟩ hPD hS 21 0 rfl rfl rfl [21, 22] [0, 1, 2, 3, 4, 5, 6, 7, 8, 9, 10, 11, 12, 13, 14, 15, 16, 17, 18, 19, 20, 23, 24, 25, 26] [0, 1, 2, 3, 4, 5, 6, 7, 8, 9, 10, 11, 12, 13, 14, 15, 16, 17, 18, 19, 20, 25, 26, 21, 22, 23, 24] (wN := (wX6 G h0 a0 f0 A0 ++ (wX1 G h1 a1 f1 A1 ++ (wB G q2 g2 aB2 fB2 AB2)))) rfl rfl rfl rfl rfl hl.1 (Nat.le_of_ble_eq_true rfl) dX5_walk_32 (fun H locs hPD hS => ?_)
        refine lv_istore (lv' := [(5, .int q_4), (4, .ref (g2 5)), (0, .ref h0), (1, .ref h1), (2, .ref q2), (3, .int l3)]) hx hb dX5_walk_35 hl (by decide) rfl (fun ls hl => ?_)
        refine lv_aload_n hx hb dX5_walk_37 rfl (lv_at hl 3 rfl) ?_
        refine lv_iload hx hb dX5_walk_38 (lv_at hl 0 rfl) ?_
        refine kVI (As := [.int q_4]) (rest := []) C0 (kt_X1_isTold l G h1 a1 f1 A1 q_4) gi_V_X5_40_X1_isTold (n := 1) rfl (by decide +kernel) rfl ⟨rfl, rfl, Nat.le_of_ble_eq_true rfl, Nat.le_of_ble_eq_true rfl⟩ hPD hS 6 1 rfl rfl rfl [6, 7, 8, 9] [0, 1, 2, 3, 4, 5, 10, 11, 12, 13, 14, 15, 16, 17, 18, 19, 20, 21, 22, 23, 24, 25, 26] [0, 1, 2, 3, 4, 5, 23, 24, 25, 26, 6, 7, 8, 9, 10, 11, 12, 13, 14, 15, 16, 17, 18, 19, 20, 21, 22] (wN := (wX6 G h0 a0 f0 A0 ++ (wX1 G h1 a1 f1 A1 ++ (wB G q2 g2 aB2 fB2 AB2)))) rfl rfl rfl rfl rfl hl.1 (Nat.le_of_ble_eq_true rfl) dX5_walk_40 (fun H locs hPD hS => ?_)
        refine lv_if_eq (tgt := 79) hx hb dX5_walk_43 (by decide) (fun cc1 => ?_) (fun cc1 => ?_)
        · have h := (if_pos cc1).symm.trans h
          refine lv_iinc (v := l3 + 1) (lv' := [(3, .int (l3 + 1)), (5, .int q_4), (4, .ref (g2 5)), (0, .ref h0), (1, .ref h1), (2, .ref q2)]) hx hb dX5_walk_79 hl (k := 5) rfl rfl (by decide) rfl (fun ls hl => ?_)
          refine lv_goto (tgt := 2) hx hb dX5_walk_82 (by decide) ?_
          exact hk2 A0 (l3 + 1) h _ _ _ hPD hS (lv_sub hl [3, 4, 5, 0] rfl)
        · have h := (if_neg cc1).symm.trans h
          refine lv_aload_n hx hb dX5_walk_46 rfl (lv_at hl 3 rfl) ?_
          refine va_get (D := G.1) (ci := 1) (v := .ref (a1 1)) (C := RX1) (T := TX1) (N := 4) hx hb hts inlX1 hown hK hPD.1 6 rfl rfl 1 (by decide) (hts _ gw_275) (fun _ h9 => h9) rfl dX5_walk_47 ?_
          refine lv_aload_n hx hb dX5_walk_50 rfl (lv_at hl 2 rfl) ?_
          refine va_get (D := G.1) (ci := 6) (v := .ref (a0 3)) (C := RX6) (T := TX6) (N := 10) hx hb hts inlX6 hown hK hPD.1 0 rfl rfl 3 (by decide) (hts _ gw_276) (fun _ h9 => h9) rfl dX5_walk_51 ?_
          refine lv_iload_n hx hb dX5_walk_54 rfl (lv_at hl 5 rfl) ?_
          refine kNI (As := [.ref (a0 3), .int l3]) (rest := [.ref (a1 1)]) C0 (kt_X9_at l G (a0 3) 8 (A0 3) l3 (by decide)) gi_U_X9_at (host := "IdleCrimes") (index := 49) (List.mem_of_getElem? (i := 24) rfl) gw_6 gw_7 (n := 2) rfl (by decide +kernel) ⟨rfl, rfl, Nat.le_of_ble_eq_true rfl, Nat.le_of_ble_eq_true rfl⟩ hPD hS [4] [0, 1, 2, 3, 5, 6, 7, 8, 9, 10, 11, 12, 13, 14, 15, 16, 17, 18, 19, 20, 21, 22, 23, 24, 25, 26] [0, 1, 2, 3, 26, 4, 5, 6, 7, 8, 9, 10, 11, 12, 13, 14, 15, 16, 17, 18, 19, 20, 21, 22, 23, 24, 25] (wN := (wX6 G h0 a0 f0 A0 ++ (wX1 G h1 a1 f1 A1 ++ (wB G q2 g2 aB2 fB2 AB2)))) rfl rfl rfl rfl rfl hl.1 (Nat.le_of_ble_eq_true rfl) dX5_walk_55 (fun H locs hPD hS => ?_)
          refine kNI (As := [.ref (a1 1), .int (f9_at 8 (A0 3) l3)]) (rest := []) C0 (kt_X9_at l G (a1 1) 16 (A1 1) (f9_at 8 (A0 3) l3) (by decide)) gi_U_X9_at (host := "IdleCrimes") (index := 49) (List.mem_of_getElem? (i := 24) rfl) gw_6 gw_7 (n := 2) rfl (by decide +kernel) ⟨rfl, rfl, Nat.le_of_ble_eq_true rfl, Nat.le_of_ble_eq_true rfl⟩ hPD hS [7] [0, 1, 2, 3, 4, 5, 6, 8, 9, 10, 11, 12, 13, 14, 15, 16, 17, 18, 19, 20, 21, 22, 23, 24, 25, 26] [0, 1, 2, 3, 4, 5, 6, 26, 7, 8, 9, 10, 11, 12, 13, 14, 15, 16, 17, 18, 19, 20, 21, 22, 23, 24, 25] (wN := (wX6 G h0 a0 f0 A0 ++ (wX1 G h1 a1 f1 A1 ++ (wB G q2 g2 aB2 fB2 AB2)))) rfl rfl rfl rfl rfl hl.1 (Nat.le_of_ble_eq_true rfl) dX5_walk_58 (fun H locs hPD hS => ?_)
          refine lv_iload hx hb dX5_walk_61 (lv_at hl 0 rfl) ?_
          refine kNI (As := [.int (f9_at 16 (A1 1) (f9_at 8 (A0 3) l3)), .int q_4]) (rest := []) C0 (kt_X9_has l G  (f9_at 16 (A1 1) (f9_at 8 (A0 3) l3)) q_4) gi_U_X9_has (host := "IdleCrimes") (index := 71) (List.mem_of_getElem? (i := 25) rfl) gw_6 gw_73 (n := 2) rfl (by decide +kernel) ⟨rfl, rfl, Nat.le_of_ble_eq_true rfl, Nat.le_of_ble_eq_true rfl⟩ hPD hS [] [0, 1, 2, 3, 4, 5, 6, 7, 8, 9, 10, 11, 12, 13, 14, 15, 16, 17, 18, 19, 20, 21, 22, 23, 24, 25, 26] [0, 1, 2, 3, 4, 5, 6, 7, 8, 9, 10, 11, 12, 13, 14, 15, 16, 17, 18, 19, 20, 21, 22, 23, 24, 25, 26] (wN := (wX6 G h0 a0 f0 A0 ++ (wX1 G h1 a1 f1 A1 ++ (wB G q2 g2 aB2 fB2 AB2)))) rfl rfl rfl rfl rfl hl.1 (Nat.le_of_ble_eq_true rfl) dX5_walk_63 (fun H locs hPD hS => ?_)
          refine lv_if_eq (tgt := 79) hx hb dX5_walk_66 (by decide) (fun cc1 => ?_) (fun cc1 => ?_)
          · have h := (if_pos cc1).symm.trans h
            refine lv_iinc (v := l3 + 1) (lv' := [(3, .int (l3 + 1)), (5, .int q_4), (4, .ref (g2 5)), (0, .ref h0), (1, .ref h1), (2, .ref q2)]) hx hb dX5_walk_79 hl (k := 5) rfl rfl (by decide) rfl (fun ls hl => ?_)
            refine lv_goto (tgt := 2) hx hb dX5_walk_82 (by decide) ?_
            exact hk2 A0 (l3 + 1) h _ _ _ hPD hS (lv_sub hl [3, 4, 5, 0] rfl)
          · have h := (if_neg cc1).symm.trans h
            refine lv_aload_n hx hb dX5_walk_69 rfl (lv_at hl 2 rfl) ?_
            refine va_get (D := G.1) (ci := 6) (v := .ref (a0 3)) (C := RX6) (T := TX6) (N := 10) hx hb hts inlX6 hown hK hPD.1 0 rfl rfl 3 (by decide) (hts _ gw_276) (fun _ h9 => h9) rfl dX5_walk_70 ?_
            refine lv_iload_n hx hb dX5_walk_73 rfl (lv_at hl 5 rfl) ?_
            refine lv_iload hx hb dX5_walk_74 (lv_at hl 0 rfl) ?_
            obtain ⟨z_5, ez_5, h⟩ := lvl h
            have kc := kt_X9_put l G (a0 3) 8 (A0 3) l3 q_4 (by decide)
            rw [← ez_5] at kc
            clear ez_5
            refine kNV (As := [.ref (a0 3), .int l3, .int q_4]) (rest := []) C0 (kc) gi_U_X9_put (host := "IdleCrimes") (index := 75) (List.mem_of_getElem? (i := 26) rfl) gw_6 gw_19 (n := 3) rfl (by decide +kernel) ⟨rfl, rfl, Nat.le_of_ble_eq_true rfl, Nat.le_of_ble_eq_true rfl⟩ hPD hS [4] [0, 1, 2, 3, 5, 6, 7, 8, 9, 10, 11, 12, 13, 14, 15, 16, 17, 18, 19, 20, 21, 22, 23, 24, 25, 26] [0, 1, 2, 3, 26, 4, 5, 6, 7, 8, 9, 10, 11, 12, 13, 14, 15, 16, 17, 18, 19, 20, 21, 22, 23, 24, 25] (wN := (wX6 G h0 a0 f0 (updA A0 3 z_5) ++ (wX1 G h1 a1 f1 A1 ++ (wB G q2 g2 aB2 fB2 AB2)))) rfl rfl rfl rfl rfl hl.1 (Nat.le_of_ble_eq_true rfl) dX5_walk_76 (fun H locs hPD hS => ?_)
            obtain ⟨A0_6, eA0_6, h⟩ := lvl h
            have hPD : WD G DA (wX6 G h0 a0 f0 A0_6 ++ (wX1 G h1 a1 f1 A1 ++ (wB G q2 g2 aB2 fB2 AB2))) H := by rw [eA0_6]; exact hPD
            clear eA0_6
            refine lv_iinc (v := l3 + 1) (lv' := [(3, .int (l3 + 1)), (5, .int q_4), (4, .ref (g2 5)), (0, .ref h0), (1, .ref h1), (2, .ref q2)]) hx hb dX5_walk_79 hl (k := 5) rfl rfl (by decide) rfl (fun ls hl => ?_)
            refine lv_goto (tgt := 2) hx hb dX5_walk_82 (by decide) ?_
            exact hk2 A0_6 (l3 + 1) h _ _ _ hPD hS (lv_sub hl [3, 4, 5, 0] rfl)
    · refine lv_astore (lv' := [(4, .ref (g2 6)), (0, .ref h0), (1, .ref h1), (2, .ref q2), (3, .int l3)]) hx hb dX5_walk_11 hl (by decide) rfl (fun ls hl => ?_)
      refine lv_aload hx hb dX5_walk_13 (lv_at hl 0 rfl) ?_
      refine lv_ifnull hx hb dX5_walk_15 ?_
      refine lv_aload_n hx hb dX5_walk_18 rfl (lv_at hl 1 rfl) ?_
      refine lv_iload_n hx hb dX5_walk_19 rfl (lv_at hl 4 rfl) ?_
      refine kVI (As := [.int l3]) (rest := []) C0 (kt_X6_isTold l G h0 a0 f0 A0 l3) gi_V_X5_61_X6_isTold (n := 1) rfl (by decide +kernel) rfl ⟨rfl, rfl, Nat.le_of_ble_eq_true rfl, Nat.le_of_ble_eq_true rfl⟩ hPD hS 0 6 rfl rfl rfl [0, 1, 2, 3, 4, 5] [6, 7, 8, 9, 10, 11, 12, 13, 14, 15, 16, 17, 18, 19, 20, 21, 22, 23, 24, 25, 26] [21, 22, 23, 24, 25, 26, 0, 1, 2, 3, 4, 5, 6, 7, 8, 9, 10, 11, 12, 13, 14, 15, 16, 17, 18, 19, 20] (wN := (wX6 G h0 a0 f0 A0 ++ (wX1 G h1 a1 f1 A1 ++ (wB G q2 g2 aB2 fB2 AB2)))) rfl rfl rfl rfl rfl hl.1 (Nat.le_of_ble_eq_true rfl) dX5_walk_20 (fun H locs hPD hS => ?_)
      refine lv_if_eq (tgt := 79) hx hb dX5_walk_23 (by decide) (fun cc1 => ?_) (fun cc1 => ?_)
      · have h := (if_pos cc1).symm.trans h
        refine lv_iinc (v := l3 + 1) (lv' := [(3, .int (l3 + 1)), (4, .ref (g2 6)), (0, .ref h0), (1, .ref h1), (2, .ref q2)]) hx hb dX5_walk_79 hl (k := 4) rfl rfl (by decide) rfl (fun ls hl => ?_)
        refine lv_goto (tgt := 2) hx hb dX5_walk_82 (by decide) ?_
        exact hk2 A0 (l3 + 1) h _ _ _ hPD hS (lv_sub hl [2, 3, 4, 0] rfl)
      · have h := (if_neg cc1).symm.trans h
        refine lv_aload hx hb dX5_walk_26 (lv_at hl 0 rfl) ?_
        refine lv_aload_n hx hb dX5_walk_28 rfl (lv_at hl 1 rfl) ?_
        refine va_get (D := G.1) (ci := 6) (v := .int (f0 8)) (C := RX6) (T := TX6) (N := 10) hx hb hts inlX6 hown hK hPD.1 0 rfl rfl 8 (by decide) (hts _ gw_269) (fun _ h9 => h9) rfl dX5_walk_29 ?_
        obtain ⟨q_4, hq_4, h⟩ := ob2 h
        refine kVI (As := [.int (f0 8)]) (rest := []) C0 (kt_X0_stepAt l G (g2 6) (aB2 6) (fB2 6) (AB2 6) (f0 8) hq_4) gi_V_X5_62_X0_stepAt (n := 1) rfl (by decide +kernel) rfl ⟨rfl, rfl, Nat.le_of_ble_eq_true rfl, Nat.le_of_ble_eq_true rfl⟩ hPD hS 23 0 rfl rfl rfl [23, 24] [0, 1, 2, 3, 4, 5, 6, 7, 8, 9, 10, 11, 12, 13, 14, 15, 16, 17, 18, 19, 20, 21, 22, 25, 26] [0, 1, 2, 3, 4, 5, 6, 7, 8, 9, 10, 11, 12, 13, 14, 15, 16, 17, 18, 19, 20, 21, 22, 25, 26, 23, 24] (wN := (wX6 G h0 a0 f0 A0 ++ (wX1 G h1 a1 f1 A1 ++ (wB G q2 g2 aB2 fB2 AB2)))) rfl rfl rfl rfl rfl hl.1 (Nat.le_of_ble_eq_true rfl) dX5_walk_32 (fun H locs hPD hS => ?_)
        refine lv_istore (lv' := [(5, .int q_4), (4, .ref (g2 6)), (0, .ref h0), (1, .ref h1), (2, .ref q2), (3, .int l3)]) hx hb dX5_walk_35 hl (by decide) rfl (fun ls hl => ?_)
        refine lv_aload_n hx hb dX5_walk_37 rfl (lv_at hl 3 rfl) ?_
        refine lv_iload hx hb dX5_walk_38 (lv_at hl 0 rfl) ?_
        refine kVI (As := [.int q_4]) (rest := []) C0 (kt_X1_isTold l G h1 a1 f1 A1 q_4) gi_V_X5_40_X1_isTold (n := 1) rfl (by decide +kernel) rfl ⟨rfl, rfl, Nat.le_of_ble_eq_true rfl, Nat.le_of_ble_eq_true rfl⟩ hPD hS 6 1 rfl rfl rfl [6, 7, 8, 9] [0, 1, 2, 3, 4, 5, 10, 11, 12, 13, 14, 15, 16, 17, 18, 19, 20, 21, 22, 23, 24, 25, 26] [0, 1, 2, 3, 4, 5, 23, 24, 25, 26, 6, 7, 8, 9, 10, 11, 12, 13, 14, 15, 16, 17, 18, 19, 20, 21, 22] (wN := (wX6 G h0 a0 f0 A0 ++ (wX1 G h1 a1 f1 A1 ++ (wB G q2 g2 aB2 fB2 AB2)))) rfl rfl rfl rfl rfl hl.1 (Nat.le_of_ble_eq_true rfl) dX5_walk_40 (fun H locs hPD hS => ?_)
        refine lv_if_eq (tgt := 79) hx hb dX5_walk_43 (by decide) (fun cc1 => ?_) (fun cc1 => ?_)
        · have h := (if_pos cc1).symm.trans h
          refine lv_iinc (v := l3 + 1) (lv' := [(3, .int (l3 + 1)), (5, .int q_4), (4, .ref (g2 6)), (0, .ref h0), (1, .ref h1), (2, .ref q2)]) hx hb dX5_walk_79 hl (k := 5) rfl rfl (by decide) rfl (fun ls hl => ?_)
          refine lv_goto (tgt := 2) hx hb dX5_walk_82 (by decide) ?_
          exact hk2 A0 (l3 + 1) h _ _ _ hPD hS (lv_sub hl [3, 4, 5, 0] rfl)
        · have h := (if_neg cc1).symm.trans h
          refine lv_aload_n hx hb dX5_walk_46 rfl (lv_at hl 3 rfl) ?_
          refine va_get (D := G.1) (ci := 1) (v := .ref (a1 1)) (C := RX1) (T := TX1) (N := 4) hx hb hts inlX1 hown hK hPD.1 6 rfl rfl 1 (by decide) (hts _ gw_275) (fun _ h9 => h9) rfl dX5_walk_47 ?_
          refine lv_aload_n hx hb dX5_walk_50 rfl (lv_at hl 2 rfl) ?_
          refine va_get (D := G.1) (ci := 6) (v := .ref (a0 3)) (C := RX6) (T := TX6) (N := 10) hx hb hts inlX6 hown hK hPD.1 0 rfl rfl 3 (by decide) (hts _ gw_276) (fun _ h9 => h9) rfl dX5_walk_51 ?_
          refine lv_iload_n hx hb dX5_walk_54 rfl (lv_at hl 5 rfl) ?_
          refine kNI (As := [.ref (a0 3), .int l3]) (rest := [.ref (a1 1)]) C0 (kt_X9_at l G (a0 3) 8 (A0 3) l3 (by decide)) gi_U_X9_at (host := "IdleCrimes") (index := 49) (List.mem_of_getElem? (i := 24) rfl) gw_6 gw_7 (n := 2) rfl (by decide +kernel) ⟨rfl, rfl, Nat.le_of_ble_eq_true rfl, Nat.le_of_ble_eq_true rfl⟩ hPD hS [4] [0, 1, 2, 3, 5, 6, 7, 8, 9, 10, 11, 12, 13, 14, 15, 16, 17, 18, 19, 20, 21, 22, 23, 24, 25, 26] [0, 1, 2, 3, 26, 4, 5, 6, 7, 8, 9, 10, 11, 12, 13, 14, 15, 16, 17, 18, 19, 20, 21, 22, 23, 24, 25] (wN := (wX6 G h0 a0 f0 A0 ++ (wX1 G h1 a1 f1 A1 ++ (wB G q2 g2 aB2 fB2 AB2)))) rfl rfl rfl rfl rfl hl.1 (Nat.le_of_ble_eq_true rfl) dX5_walk_55 (fun H locs hPD hS => ?_)
          refine kNI (As := [.ref (a1 1), .int (f9_at 8 (A0 3) l3)]) (rest := []) C0 (kt_X9_at l G (a1 1) 16 (A1 1) (f9_at 8 (A0 3) l3) (by decide)) gi_U_X9_at (host := "IdleCrimes") (index := 49) (List.mem_of_getElem? (i := 24) rfl) gw_6 gw_7 (n := 2) rfl (by decide +kernel) ⟨rfl, rfl, Nat.le_of_ble_eq_true rfl, Nat.le_of_ble_eq_true rfl⟩ hPD hS [7] [0, 1, 2, 3, 4, 5, 6, 8, 9, 10, 11, 12, 13, 14, 15, 16, 17, 18, 19, 20, 21, 22, 23, 24, 25, 26] [0, 1, 2, 3, 4, 5, 6, 26, 7, 8, 9, 10, 11, 12, 13, 14, 15, 16, 17, 18, 19, 20, 21, 22, 23, 24, 25] (wN := (wX6 G h0 a0 f0 A0 ++ (wX1 G h1 a1 f1 A1 ++ (wB G q2 g2 aB2 fB2 AB2)))) rfl rfl rfl rfl rfl hl.1 (Nat.le_of_ble_eq_true rfl) dX5_walk_58 (fun H locs hPD hS => ?_)
          refine lv_iload hx hb dX5_walk_61 (lv_at hl 0 rfl) ?_
          refine kNI (As := [.int (f9_at 16 (A1 1) (f9_at 8 (A0 3) l3)), .int q_4]) (rest := []) C0 (kt_X9_has l G  (f9_at 16 (A1 1) (f9_at 8 (A0 3) l3)) q_4) gi_U_X9_has (host := "IdleCrimes") (index := 71) (List.mem_of_getElem? (i := 25) rfl) gw_6 gw_73 (n := 2) rfl (by decide +kernel) ⟨rfl, rfl, Nat.le_of_ble_eq_true rfl, Nat.le_of_ble_eq_true rfl⟩ hPD hS [] [0, 1, 2, 3, 4, 5, 6, 7, 8, 9, 10, 11, 12, 13, 14, 15, 16, 17, 18, 19, 20, 21, 22, 23, 24, 25, 26] [0, 1, 2, 3, 4, 5, 6, 7, 8, 9, 10, 11, 12, 13, 14, 15, 16, 17, 18, 19, 20, 21, 22, 23, 24, 25, 26] (wN := (wX6 G h0 a0 f0 A0 ++ (wX1 G h1 a1 f1 A1 ++ (wB G q2 g2 aB2 fB2 AB2)))) rfl rfl rfl rfl rfl hl.1 (Nat.le_of_ble_eq_true rfl) dX5_walk_63 (fun H locs hPD hS => ?_)
          refine lv_if_eq (tgt := 79) hx hb dX5_walk_66 (by decide) (fun cc1 => ?_) (fun cc1 => ?_)
          · have h := (if_pos cc1).symm.trans h
            refine lv_iinc (v := l3 + 1) (lv' := [(3, .int (l3 + 1)), (5, .int q_4), (4, .ref (g2 6)), (0, .ref h0), (1, .ref h1), (2, .ref q2)]) hx hb dX5_walk_79 hl (k := 5) rfl rfl (by decide) rfl (fun ls hl => ?_)
            refine lv_goto (tgt := 2) hx hb dX5_walk_82 (by decide) ?_
            exact hk2 A0 (l3 + 1) h _ _ _ hPD hS (lv_sub hl [3, 4, 5, 0] rfl)
          · have h := (if_neg cc1).symm.trans h
            refine lv_aload_n hx hb dX5_walk_69 rfl (lv_at hl 2 rfl) ?_
            refine va_get (D := G.1) (ci := 6) (v := .ref (a0 3)) (C := RX6) (T := TX6) (N := 10) hx hb hts inlX6 hown hK hPD.1 0 rfl rfl 3 (by decide) (hts _ gw_276) (fun _ h9 => h9) rfl dX5_walk_70 ?_
            refine lv_iload_n hx hb dX5_walk_73 rfl (lv_at hl 5 rfl) ?_
            refine lv_iload hx hb dX5_walk_74 (lv_at hl 0 rfl) ?_
            obtain ⟨z_5, ez_5, h⟩ := lvl h
            have kc := kt_X9_put l G (a0 3) 8 (A0 3) l3 q_4 (by decide)
            rw [← ez_5] at kc
            clear ez_5
            refine kNV (As := [.ref (a0 3), .int l3, .int q_4]) (rest := []) C0 (kc) gi_U_X9_put (host := "IdleCrimes") (index := 75) (List.mem_of_getElem? (i := 26) rfl) gw_6 gw_19 (n := 3) rfl (by decide +kernel) ⟨rfl, rfl, Nat.le_of_ble_eq_true rfl, Nat.le_of_ble_eq_true rfl⟩ hPD hS [4] [0, 1, 2, 3, 5, 6, 7, 8, 9, 10, 11, 12, 13, 14, 15, 16, 17, 18, 19, 20, 21, 22, 23, 24, 25, 26] [0, 1, 2, 3, 26, 4, 5, 6, 7, 8, 9, 10, 11, 12, 13, 14, 15, 16, 17, 18, 19, 20, 21, 22, 23, 24, 25] (wN := (wX6 G h0 a0 f0 (updA A0 3 z_5) ++ (wX1 G h1 a1 f1 A1 ++ (wB G q2 g2 aB2 fB2 AB2)))) rfl rfl rfl rfl rfl hl.1 (Nat.le_of_ble_eq_true rfl) dX5_walk_76 (fun H locs hPD hS => ?_)
            obtain ⟨A0_6, eA0_6, h⟩ := lvl h
            have hPD : WD G DA (wX6 G h0 a0 f0 A0_6 ++ (wX1 G h1 a1 f1 A1 ++ (wB G q2 g2 aB2 fB2 AB2))) H := by rw [eA0_6]; exact hPD
            clear eA0_6
            refine lv_iinc (v := l3 + 1) (lv' := [(3, .int (l3 + 1)), (5, .int q_4), (4, .ref (g2 6)), (0, .ref h0), (1, .ref h1), (2, .ref q2)]) hx hb dX5_walk_79 hl (k := 5) rfl rfl (by decide) rfl (fun ls hl => ?_)
            refine lv_goto (tgt := 2) hx hb dX5_walk_82 (by decide) ?_
            exact hk2 A0_6 (l3 + 1) h _ _ _ hPD hS (lv_sub hl [3, 4, 5, 0] rfl)
    · refine lv_astore (lv' := [(4, .ref (g2 7)), (0, .ref h0), (1, .ref h1), (2, .ref q2), (3, .int l3)]) hx hb dX5_walk_11 hl (by decide) rfl (fun ls hl => ?_)
      refine lv_aload hx hb dX5_walk_13 (lv_at hl 0 rfl) ?_
      refine lv_ifnull hx hb dX5_walk_15 ?_
      refine lv_aload_n hx hb dX5_walk_18 rfl (lv_at hl 1 rfl) ?_
      refine lv_iload_n hx hb dX5_walk_19 rfl (lv_at hl 4 rfl) ?_
      refine kVI (As := [.int l3]) (rest := []) C0 (kt_X6_isTold l G h0 a0 f0 A0 l3) gi_V_X5_61_X6_isTold (n := 1) rfl (by decide +kernel) rfl ⟨rfl, rfl, Nat.le_of_ble_eq_true rfl, Nat.le_of_ble_eq_true rfl⟩ hPD hS 0 6 rfl rfl rfl [0, 1, 2, 3, 4, 5] [6, 7, 8, 9, 10, 11, 12, 13, 14, 15, 16, 17, 18, 19, 20, 21, 22, 23, 24, 25, 26] [21, 22, 23, 24, 25, 26, 0, 1, 2, 3, 4, 5, 6, 7, 8, 9, 10, 11, 12, 13, 14, 15, 16, 17, 18, 19, 20] (wN := (wX6 G h0 a0 f0 A0 ++ (wX1 G h1 a1 f1 A1 ++ (wB G q2 g2 aB2 fB2 AB2)))) rfl rfl rfl rfl rfl hl.1 (Nat.le_of_ble_eq_true rfl) dX5_walk_20 (fun H locs hPD hS => ?_)
      refine lv_if_eq (tgt := 79) hx hb dX5_walk_23 (by decide) (fun cc1 => ?_) (fun cc1 => ?_)
      · have h := (if_pos cc1).symm.trans h
        refine lv_iinc (v := l3 + 1) (lv' := [(3, .int (l3 + 1)), (4, .ref (g2 7)), (0, .ref h0), (1, .ref h1), (2, .ref q2)]) hx hb dX5_walk_79 hl (k := 4) rfl rfl (by decide) rfl (fun ls hl => ?_)
        refine lv_goto (tgt := 2) hx hb dX5_walk_82 (by decide) ?_
        exact hk2 A0 (l3 + 1) h _ _ _ hPD hS (lv_sub hl [2, 3, 4, 0] rfl)
      · have h := (if_neg cc1).symm.trans h
        refine lv_aload hx hb dX5_walk_26 (lv_at hl 0 rfl) ?_
        refine lv_aload_n hx hb dX5_walk_28 rfl (lv_at hl 1 rfl) ?_
        refine va_get (D := G.1) (ci := 6) (v := .int (f0 8)) (C := RX6) (T := TX6) (N := 10) hx hb hts inlX6 hown hK hPD.1 0 rfl rfl 8 (by decide) (hts _ gw_269) (fun _ h9 => h9) rfl dX5_walk_29 ?_
        obtain ⟨q_4, hq_4, h⟩ := ob2 h
        refine kVI (As := [.int (f0 8)]) (rest := []) C0 (kt_X0_stepAt l G (g2 7) (aB2 7) (fB2 7) (AB2 7) (f0 8) hq_4) gi_V_X5_62_X0_stepAt (n := 1) rfl (by decide +kernel) rfl ⟨rfl, rfl, Nat.le_of_ble_eq_true rfl, Nat.le_of_ble_eq_true rfl⟩ hPD hS 25 0 rfl rfl rfl [25, 26] [0, 1, 2, 3, 4, 5, 6, 7, 8, 9, 10, 11, 12, 13, 14, 15, 16, 17, 18, 19, 20, 21, 22, 23, 24] [0, 1, 2, 3, 4, 5, 6, 7, 8, 9, 10, 11, 12, 13, 14, 15, 16, 17, 18, 19, 20, 21, 22, 23, 24, 25, 26] (wN := (wX6 G h0 a0 f0 A0 ++ (wX1 G h1 a1 f1 A1 ++ (wB G q2 g2 aB2 fB2 AB2)))) rfl rfl rfl rfl rfl hl.1 (Nat.le_of_ble_eq_true rfl) dX5_walk_32 (fun H locs hPD hS => ?_)
        refine lv_istore (lv' := [(5, .int q_4), (4, .ref (g2 7)), (0, .ref h0), (1, .ref h1), (2, .ref q2), (3, .int l3)]) hx hb dX5_walk_35 hl (by decide) rfl (fun ls hl => ?_)
        refine lv_aload_n hx hb dX5_walk_37 rfl (lv_at hl 3 rfl) ?_
        refine lv_iload hx hb dX5_walk_38 (lv_at hl 0 rfl) ?_
        refine kVI (As := [.int q_4]) (rest := []) C0 (kt_X1_isTold l G h1 a1 f1 A1 q_4) gi_V_X5_40_X1_isTold (n := 1) rfl (by decide +kernel) rfl ⟨rfl, rfl, Nat.le_of_ble_eq_true rfl, Nat.le_of_ble_eq_true rfl⟩ hPD hS 6 1 rfl rfl rfl [6, 7, 8, 9] [0, 1, 2, 3, 4, 5, 10, 11, 12, 13, 14, 15, 16, 17, 18, 19, 20, 21, 22, 23, 24, 25, 26] [0, 1, 2, 3, 4, 5, 23, 24, 25, 26, 6, 7, 8, 9, 10, 11, 12, 13, 14, 15, 16, 17, 18, 19, 20, 21, 22] (wN := (wX6 G h0 a0 f0 A0 ++ (wX1 G h1 a1 f1 A1 ++ (wB G q2 g2 aB2 fB2 AB2)))) rfl rfl rfl rfl rfl hl.1 (Nat.le_of_ble_eq_true rfl) dX5_walk_40 (fun H locs hPD hS => ?_)
        refine lv_if_eq (tgt := 79) hx hb dX5_walk_43 (by decide) (fun cc1 => ?_) (fun cc1 => ?_)
        · have h := (if_pos cc1).symm.trans h
          refine lv_iinc (v := l3 + 1) (lv' := [(3, .int (l3 + 1)), (5, .int q_4), (4, .ref (g2 7)), (0, .ref h0), (1, .ref h1), (2, .ref q2)]) hx hb dX5_walk_79 hl (k := 5) rfl rfl (by decide) rfl (fun ls hl => ?_)
          refine lv_goto (tgt := 2) hx hb dX5_walk_82 (by decide) ?_
          exact hk2 A0 (l3 + 1) h _ _ _ hPD hS (lv_sub hl [3, 4, 5, 0] rfl)
        · have h := (if_neg cc1).symm.trans h
          refine lv_aload_n hx hb dX5_walk_46 rfl (lv_at hl 3 rfl) ?_
          refine va_get (D := G.1) (ci := 1) (v := .ref (a1 1)) (C := RX1) (T := TX1) (N := 4) hx hb hts inlX1 hown hK hPD.1 6 rfl rfl 1 (by decide) (hts _ gw_275) (fun _ h9 => h9) rfl dX5_walk_47 ?_
          refine lv_aload_n hx hb dX5_walk_50 rfl (lv_at hl 2 rfl) ?_
          refine va_get (D := G.1) (ci := 6) (v := .ref (a0 3)) (C := RX6) (T := TX6) (N := 10) hx hb hts inlX6 hown hK hPD.1 0 rfl rfl 3 (by decide) (hts _ gw_276) (fun _ h9 => h9) rfl dX5_walk_51 ?_
          refine lv_iload_n hx hb dX5_walk_54 rfl (lv_at hl 5 rfl) ?_
          refine kNI (As := [.ref (a0 3), .int l3]) (rest := [.ref (a1 1)]) C0 (kt_X9_at l G (a0 3) 8 (A0 3) l3 (by decide)) gi_U_X9_at (host := "IdleCrimes") (index := 49) (List.mem_of_getElem? (i := 24) rfl) gw_6 gw_7 (n := 2) rfl (by decide +kernel) ⟨rfl, rfl, Nat.le_of_ble_eq_true rfl, Nat.le_of_ble_eq_true rfl⟩ hPD hS [4] [0, 1, 2, 3, 5, 6, 7, 8, 9, 10, 11, 12, 13, 14, 15, 16, 17, 18, 19, 20, 21, 22, 23, 24, 25, 26] [0, 1, 2, 3, 26, 4, 5, 6, 7, 8, 9, 10, 11, 12, 13, 14, 15, 16, 17, 18, 19, 20, 21, 22, 23, 24, 25] (wN := (wX6 G h0 a0 f0 A0 ++ (wX1 G h1 a1 f1 A1 ++ (wB G q2 g2 aB2 fB2 AB2)))) rfl rfl rfl rfl rfl hl.1 (Nat.le_of_ble_eq_true rfl) dX5_walk_55 (fun H locs hPD hS => ?_)
          refine kNI (As := [.ref (a1 1), .int (f9_at 8 (A0 3) l3)]) (rest := []) C0 (kt_X9_at l G (a1 1) 16 (A1 1) (f9_at 8 (A0 3) l3) (by decide)) gi_U_X9_at (host := "IdleCrimes") (index := 49) (List.mem_of_getElem? (i := 24) rfl) gw_6 gw_7 (n := 2) rfl (by decide +kernel) ⟨rfl, rfl, Nat.le_of_ble_eq_true rfl, Nat.le_of_ble_eq_true rfl⟩ hPD hS [7] [0, 1, 2, 3, 4, 5, 6, 8, 9, 10, 11, 12, 13, 14, 15, 16, 17, 18, 19, 20, 21, 22, 23, 24, 25, 26] [0, 1, 2, 3, 4, 5, 6, 26, 7, 8, 9, 10, 11, 12, 13, 14, 15, 16, 17, 18, 19, 20, 21, 22, 23, 24, 25] (wN := (wX6 G h0 a0 f0 A0 ++ (wX1 G h1 a1 f1 A1 ++ (wB G q2 g2 aB2 fB2 AB2)))) rfl rfl rfl rfl rfl hl.1 (Nat.le_of_ble_eq_true rfl) dX5_walk_58 (fun H locs hPD hS => ?_)
          refine lv_iload hx hb dX5_walk_61 (lv_at hl 0 rfl) ?_
          refine kNI (As := [.int (f9_at 16 (A1 1) (f9_at 8 (A0 3) l3)), .int q_4]) (rest := []) C0 (kt_X9_has l G  (f9_at 16 (A1 1) (f9_at 8 (A0 3) l3)) q_4) gi_U_X9_has (host := "IdleCrimes") (index := 71) (List.mem_of_getElem? (i := 25) rfl) gw_6 gw_73 (n := 2) rfl (by decide +kernel) ⟨rfl, rfl, Nat.le_of_ble_eq_true rfl, Nat.le_of_ble_eq_true rfl⟩ hPD hS [] [0, 1, 2, 3, 4, 5, 6, 7, 8, 9, 10, 11, 12, 13, 14, 15, 16, 17, 18, 19, 20, 21, 22, 23, 24, 25, 26] [0, 1, 2, 3, 4, 5, 6, 7, 8, 9, 10, 11, 12, 13, 14, 15, 16, 17, 18, 19, 20, 21, 22, 23, 24, 25, 26] (wN := (wX6 G h0 a0 f0 A0 ++ (wX1 G h1 a1 f1 A1 ++ (wB G q2 g2 aB2 fB2 AB2)))) rfl rfl rfl rfl rfl hl.1 (Nat.le_of_ble_eq_true rfl) dX5_walk_63 (fun H locs hPD hS => ?_)
          refine lv_if_eq (tgt := 79) hx hb dX5_walk_66 (by decide) (fun cc1 => ?_) (fun cc1 => ?_)
          · have h := (if_pos cc1).symm.trans h
            refine lv_iinc (v := l3 + 1) (lv' := [(3, .int (l3 + 1)), (5, .int q_4), (4, .ref (g2 7)), (0, .ref h0), (1, .ref h1), (2, .ref q2)]) hx hb dX5_walk_79 hl (k := 5) rfl rfl (by decide) rfl (fun ls hl => ?_)
            refine lv_goto (tgt := 2) hx hb dX5_walk_82 (by decide) ?_
            exact hk2 A0 (l3 + 1) h _ _ _ hPD hS (lv_sub hl [3, 4, 5, 0] rfl)
          · have h := (if_neg cc1).symm.trans h
            refine lv_aload_n hx hb dX5_walk_69 rfl (lv_at hl 2 rfl) ?_
            refine va_get (D := G.1) (ci := 6) (v := .ref (a0 3)) (C := RX6) (T := TX6) (N := 10) hx hb hts inlX6 hown hK hPD.1 0 rfl rfl 3 (by decide) (hts _ gw_276) (fun _ h9 => h9) rfl dX5_walk_70 ?_
            refine lv_iload_n hx hb dX5_walk_73 rfl (lv_at hl 5 rfl) ?_
            refine lv_iload hx hb dX5_walk_74 (lv_at hl 0 rfl) ?_
            obtain ⟨z_5, ez_5, h⟩ := lvl h
            have kc := kt_X9_put l G (a0 3) 8 (A0 3) l3 q_4 (by decide)
            rw [← ez_5] at kc
            clear ez_5
            refine kNV (As := [.ref (a0 3), .int l3, .int q_4]) (rest := []) C0 (kc) gi_U_X9_put (host := "IdleCrimes") (index := 75) (List.mem_of_getElem? (i := 26) rfl) gw_6 gw_19 (n := 3) rfl (by decide +kernel) ⟨rfl, rfl, Nat.le_of_ble_eq_true rfl, Nat.le_of_ble_eq_true rfl⟩ hPD hS [4] [0, 1, 2, 3, 5, 6, 7, 8, 9, 10, 11, 12, 13, 14, 15, 16, 17, 18, 19, 20, 21, 22, 23, 24, 25, 26] [0, 1, 2, 3, 26, 4, 5, 6, 7, 8, 9, 10, 11, 12, 13, 14, 15, 16, 17, 18, 19, 20, 21, 22, 23, 24, 25] (wN := (wX6 G h0 a0 f0 (updA A0 3 z_5) ++ (wX1 G h1 a1 f1 A1 ++ (wB G q2 g2 aB2 fB2 AB2)))) rfl rfl rfl rfl rfl hl.1 (Nat.le_of_ble_eq_true rfl) dX5_walk_76 (fun H locs hPD hS => ?_)
            obtain ⟨A0_6, eA0_6, h⟩ := lvl h
            have hPD : WD G DA (wX6 G h0 a0 f0 A0_6 ++ (wX1 G h1 a1 f1 A1 ++ (wB G q2 g2 aB2 fB2 AB2))) H := by rw [eA0_6]; exact hPD
            clear eA0_6
            refine lv_iinc (v := l3 + 1) (lv' := [(3, .int (l3 + 1)), (5, .int q_4), (4, .ref (g2 7)), (0, .ref h0), (1, .ref h1), (2, .ref q2)]) hx hb dX5_walk_79 hl (k := 5) rfl rfl (by decide) rfl (fun ls hl => ?_)
            refine lv_goto (tgt := 2) hx hb dX5_walk_82 (by decide) ?_
            exact hk2 A0_6 (l3 + 1) h _ _ _ hPD hS (lv_sub hl [3, 4, 5, 0] rfl)
set_option maxRecDepth 100000 in
set_option maxHeartbeats 4000000 in
theorem ww_f5_walk_l2  (C0 : Cx cX5_walk 6 none RX5 p s m args meth c G DA) {h0 : Nat} {a0 : Nat → Nat} {h1 : Nat} {a1 : Nat → Nat} {q2 : Nat} {g2 : Nat → Nat} {aB2 : Nat → Nat → Nat} {f0 : Nat → Int32} {f1 : Nat → Int32} {A1 : Nat → Nat → Int32} {fB2 : Nat → Nat → Int32} {AB2 : Nat → Nat → Nat → Int32}   {res : (Nat → Nat → Int32)}  : ∀ (n : Nat) (A0 : Nat → Nat → Int32) (l3 : Int32), f5_walk_l2 f0 f1 A1 fB2 AB2  n A0 l3 = some res → ∀ (H : Heap) (locs : List Loc) (ls : Array Slot), WD G DA (wX6 G h0 a0 f0 A0 ++ (wX1 G h1 a1 f1 A1 ++ (wB G q2 g2 aB2 fB2 AB2))) H → va_S DA s.heap H locs → lv_has ls 6 [(0, .ref h0), (1, .ref h1), (2, .ref q2), (3, .int l3)] → W p l e rmX5_walk s m args below meth c H locs 0 0 (MQ below (QV G DA (wX6 G h0 a0 f0 res ++ (wX1 G h1 a1 f1 A1 ++ (wB G q2 g2 aB2 fB2 AB2)))) args s 0 0 DA) (F0 m 2 ls []) := by
  intro n
  induction n with
  | zero => intro A0 l3 h; cases h
  | succ n ih => intro A0 l3 h; exact ww_f5_walk_b2 C0  ih A0 l3 h
set_option maxRecDepth 100000 in
set_option maxHeartbeats 4000000 in
theorem kt_X5_walk (l : Launch) (G : Gp) (h0 : Nat) (a0 : Nat → Nat) (h1 : Nat) (a1 : Nat → Nat) (q2 : Nat) (g2 : Nat → Nat) (aB2 : Nat → Nat → Nat) (f0 : Nat → Int32) (A0 : Nat → Nat → Int32) (f1 : Nat → Int32) (A1 : Nat → Nat → Int32) (fB2 : Nat → Nat → Int32) (AB2 : Nat → Nat → Nat → Int32) : ∀ {r : (Nat → Nat → Int32)}, f5_walk f0 A0 f1 A1 fB2 AB2 = some r → CtrV l yX5_walk cX5_walk 6 none rmX5_walk G [.ref h0, .ref h1, .ref q2] (wX6 G h0 a0 f0 A0 ++ (wX1 G h1 a1 f1 A1 ++ (wB G q2 g2 aB2 fB2 AB2))) (wX6 G h0 a0 f0 r ++ (wX1 G h1 a1 f1 A1 ++ (wB G q2 g2 aB2 fB2 AB2))) := by
  intro res h
  refine ctrV_of (cc := cX5_walk) (maxL := 6) (ret := none) (by decide +kernel) rfl (Nat.le_of_ble_eq_true rfl) (fun p e s m below meth c DA C0 hP hD ls hl => ?_)
  have hPD : WD G DA (wX6 G h0 a0 f0 A0 ++ (wX1 G h1 a1 f1 A1 ++ (wB G q2 g2 aB2 fB2 AB2))) s.heap := ⟨hP, hD⟩
  have hS : va_S DA s.heap s.heap [] := va_S.rf
  have hl : lv_has ls 6 [(0, .ref h0), (1, .ref h1), (2, .ref q2)] := hl
  obtain ⟨hx, hb, hml, hown, hts⟩ := C0.1
  have hK := C0.2.2.2.1
  unfold f5_walk at h
  refine lv_iconst (v := 0) hx hb dX5_walk_0 (by decide) ?_
  refine lv_istore_n (lv' := [(3, .int 0), (0, .ref h0), (1, .ref h1), (2, .ref q2)]) hx hb dX5_walk_1 rfl hl (by decide) rfl (fun ls hl => ?_)
  exact ww_f5_walk_l2 C0 NF A0 0 h _ _ _ hPD hS (lv_sub hl [1, 2, 3, 0] rfl)
abbrev rmX5_lookAround : Room := { frames := 3, cells := 0, slots := 0, locals := 64 }
set_option maxRecDepth 100000 in
set_option maxHeartbeats 4000000 in
theorem ww_f5_lookAround_b78  (C0 : Cx cX5_lookAround 5 none RX5 p s m args meth c G DA) {h0 : Nat} {a0 : Nat → Nat} {h1 : Nat} {a1 : Nat → Nat} {h2 : Nat} {a2 : Nat → Nat} {f0 : Nat → Int32} {f1 : Nat → Int32} {f2 : Nat → Int32} {A2 : Nat → Nat → Int32}  {k78 : (Nat → Nat → Int32) → (Nat → Nat → Int32) → Int32 → Option ((Nat → Nat → Int32) × (Nat → Nat → Int32))} {res : (Nat → Nat → Int32) × (Nat → Nat → Int32)}  (hk78 : ∀ (A0 : Nat → Nat → Int32) (A1 : Nat → Nat → Int32) (l3 : Int32), k78 A0 A1 l3 = some res → ∀ (H : Heap) (locs : List Loc) (ls : Array Slot), WD G DA (wX5 G h0 a0 f0 A0 ++ (wX6 G h1 a1 f1 A1 ++ (wX1 G h2 a2 f2 A2))) H → va_S DA s.heap H locs → lv_has ls 5 [(0, .ref h0), (1, .ref h1), (2, .ref h2), (3, .int l3)] → W p l e rmX5_lookAround s m args below meth c H locs 0 0 (MQ below (QV G DA (wX5 G h0 a0 f0 res.1 ++ (wX6 G h1 a1 f1 res.2 ++ (wX1 G h2 a2 f2 A2)))) args s 0 0 DA) (F0 m 78 ls [])) : ∀ (A0 : Nat → Nat → Int32) (A1 : Nat → Nat → Int32) (l3 : Int32), f5_lookAround_b78 f0 f1 f2 A2  k78 A0 A1 l3 = some res → ∀ (H : Heap) (locs : List Loc) (ls : Array Slot), WD G DA (wX5 G h0 a0 f0 A0 ++ (wX6 G h1 a1 f1 A1 ++ (wX1 G h2 a2 f2 A2))) H → va_S DA s.heap H locs → lv_has ls 5 [(0, .ref h0), (1, .ref h1), (2, .ref h2), (3, .int l3)] → W p l e rmX5_lookAround s m args below meth c H locs 0 0 (MQ below (QV G DA (wX5 G h0 a0 f0 res.1 ++ (wX6 G h1 a1 f1 res.2 ++ (wX1 G h2 a2 f2 A2)))) args s 0 0 DA) (F0 m 78 ls []) := by
  obtain ⟨hx, hb, hml, hown, hts⟩ := C0.1
  have hK := C0.2.2.2.1
  intro A0 A1 l3 h _ _ _ hPD hS hl
  unfold f5_lookAround_b78 at h
  refine lv_iload_n hx hb dX5_lookAround_78 rfl (lv_at hl 3 rfl) ?_
  refine lv_bipush (v := 16) hx hb dX5_lookAround_79 (by decide) ?_
  refine lv_icmp_ge (tgt := 140) hx hb dX5_lookAround_81 (by decide) (fun cc1 => ?_) (fun cc1 => ?_)
  · have h := (if_pos cc1).symm.trans h
    obtain rfl := Option.some.inj h
    exact eV C0 hPD.1 hPD.2 hS dX5_lookAround_140
  · have h := (if_neg cc1).symm.trans h
    refine lv_aload_n hx hb dX5_lookAround_84 rfl (lv_at hl 2 rfl) ?_
    refine lv_iload_n hx hb dX5_lookAround_85 rfl (lv_at hl 3 rfl) ?_
    refine kVI (As := [.int l3]) (rest := []) C0 (kt_X1_isTold l G h2 a2 f2 A2 l3) gi_V_X5_40_X1_isTold (n := 1) rfl (by decide +kernel) rfl ⟨rfl, rfl, Nat.le_of_ble_eq_true rfl, Nat.le_of_ble_eq_true rfl⟩ hPD hS 9 1 rfl rfl rfl [9, 10, 11, 12] [0, 1, 2, 3, 4, 5, 6, 7, 8] [0, 1, 2, 3, 4, 5, 6, 7, 8, 9, 10, 11, 12] (wN := (wX5 G h0 a0 f0 A0 ++ (wX6 G h1 a1 f1 A1 ++ (wX1 G h2 a2 f2 A2)))) rfl rfl rfl rfl rfl hl.1 (Nat.le_of_ble_eq_true rfl) dX5_lookAround_86 (fun H locs hPD hS => ?_)
    refine lv_if_eq (tgt := 134) hx hb dX5_lookAround_89 (by decide) (fun cc1 => ?_) (fun cc1 => ?_)
    · have h := (if_pos cc1).symm.trans h
      refine lv_iinc (v := l3 + 1) (lv' := [(3, .int (l3 + 1)), (0, .ref h0), (1, .ref h1), (2, .ref h2)]) hx hb dX5_lookAround_134 hl (k := 3) rfl rfl (by decide) rfl (fun ls hl => ?_)
      refine lv_goto (tgt := 78) hx hb dX5_lookAround_137 (by decide) ?_
      exact hk78 A0 A1 (l3 + 1) h _ _ _ hPD hS (lv_sub hl [1, 2, 3, 0] rfl)
    · have h := (if_neg cc1).symm.trans h
      refine lv_aload_n hx hb dX5_lookAround_92 rfl (lv_at hl 1 rfl) ?_
      refine va_get (D := G.1) (ci := 6) (v := .ref (a1 2)) (C := RX6) (T := TX6) (N := 10) hx hb hts inlX6 hown hK hPD.1 3 rfl rfl 2 (by decide) (hts _ gw_278) (fun _ h9 => h9) rfl dX5_lookAround_93 ?_
      refine lv_iload_n hx hb dX5_lookAround_96 rfl (lv_at hl 3 rfl) ?_
      refine kNI (As := [.ref (a1 2), .int l3]) (rest := []) C0 (kt_X9_at l G (a1 2) 16 (A1 2) l3 (by decide)) gi_U_X9_at (host := "IdleCrimes") (index := 49) (List.mem_of_getElem? (i := 24) rfl) gw_6 gw_7 (n := 2) rfl (by decide +kernel) ⟨rfl, rfl, Nat.le_of_ble_eq_true rfl, Nat.le_of_ble_eq_true rfl⟩ hPD hS [6] [0, 1, 2, 3, 4, 5, 7, 8, 9, 10, 11, 12] [0, 1, 2, 3, 4, 5, 12, 6, 7, 8, 9, 10, 11] (wN := (wX5 G h0 a0 f0 A0 ++ (wX6 G h1 a1 f1 A1 ++ (wX1 G h2 a2 f2 A2)))) rfl rfl rfl rfl rfl hl.1 (Nat.le_of_ble_eq_true rfl) dX5_lookAround_97 (fun H locs hPD hS => ?_)
      refine lv_iconst (v := 1) hx hb dX5_lookAround_100 (by decide) ?_
      refine lv_iadd hx hb dX5_lookAround_101 ?_
      refine lv_bipush (v := 99) hx hb dX5_lookAround_102 (by decide) ?_
      refine va_mmin hx hb (hml.trans hl.1.symm) hown (hts _ gw_279) (hts _ gw_208) (hts _ gw_209) (hts _ gw_210) (Nat.le_of_ble_eq_true rfl) (Nat.le_of_ble_eq_true rfl) (Nat.zero_le _) (Nat.zero_le _) dX5_lookAround_104 ?_
      refine lv_istore (lv' := [(4, .int (imin ((f9_at 16 (A1 2) l3) + 1) 99)), (0, .ref h0), (1, .ref h1), (2, .ref h2), (3, .int l3)]) hx hb dX5_lookAround_107 hl (by decide) rfl (fun ls hl => ?_)
      refine lv_aload_n hx hb dX5_lookAround_109 rfl (lv_at hl 2 rfl) ?_
      refine va_get (D := G.1) (ci := 6) (v := .ref (a1 2)) (C := RX6) (T := TX6) (N := 10) hx hb hts inlX6 hown hK hPD.1 3 rfl rfl 2 (by decide) (hts _ gw_278) (fun _ h9 => h9) rfl dX5_lookAround_110 ?_
      refine lv_iload_n hx hb dX5_lookAround_113 rfl (lv_at hl 4 rfl) ?_
      refine lv_aload_n hx hb dX5_lookAround_114 rfl (lv_at hl 1 rfl) ?_
      refine va_get (D := G.1) (ci := 5) (v := .ref (a0 0)) (C := RX5) (T := TX5) (N := 4) hx hb hts inlX5 hown hK hPD.1 0 rfl rfl 0 (by decide) (hts _ gw_277) (fun _ h9 => h9) rfl dX5_lookAround_115 ?_
      refine lv_iload_n hx hb dX5_lookAround_118 rfl (lv_at hl 4 rfl) ?_
      refine kNI (As := [.ref (a0 0), .int l3]) (rest := [.int l3, .ref (a1 2)]) C0 (kt_X9_at l G (a0 0) 16 (A0 0) l3 (by decide)) gi_U_X9_at (host := "IdleCrimes") (index := 49) (List.mem_of_getElem? (i := 24) rfl) gw_6 gw_7 (n := 2) rfl (by decide +kernel) ⟨rfl, rfl, Nat.le_of_ble_eq_true rfl, Nat.le_of_ble_eq_true rfl⟩ hPD hS [1] [0, 2, 3, 4, 5, 6, 7, 8, 9, 10, 11, 12] [0, 12, 1, 2, 3, 4, 5, 6, 7, 8, 9, 10, 11] (wN := (wX5 G h0 a0 f0 A0 ++ (wX6 G h1 a1 f1 A1 ++ (wX1 G h2 a2 f2 A2)))) rfl rfl rfl rfl rfl hl.1 (Nat.le_of_ble_eq_true rfl) dX5_lookAround_119 (fun H locs hPD hS => ?_)
      refine lv_if_le (tgt := 129) hx hb dX5_lookAround_122 (by decide) (fun cc1 => ?_) (fun cc1 => ?_)
      · have h := (if_pos cc1).symm.trans h
        refine lv_iload hx hb dX5_lookAround_129 (lv_at hl 0 rfl) ?_
        obtain ⟨z_1, ez_1, h⟩ := lvl h
        have kc := kt_X9_put l G (a1 2) 16 (A1 2) l3 (imin ((f9_at 16 (A1 2) l3) + 1) 99) (by decide)
        rw [← ez_1] at kc
        clear ez_1
        refine kNV (As := [.ref (a1 2), .int l3, .int (imin ((f9_at 16 (A1 2) l3) + 1) 99)]) (rest := []) C0 (kc) gi_U_X9_put (host := "IdleCrimes") (index := 75) (List.mem_of_getElem? (i := 26) rfl) gw_6 gw_19 (n := 3) rfl (by decide +kernel) ⟨rfl, rfl, Nat.le_of_ble_eq_true rfl, Nat.le_of_ble_eq_true rfl⟩ hPD hS [6] [0, 1, 2, 3, 4, 5, 7, 8, 9, 10, 11, 12] [0, 1, 2, 3, 4, 5, 12, 6, 7, 8, 9, 10, 11] (wN := (wX5 G h0 a0 f0 A0 ++ (wX6 G h1 a1 f1 (updA A1 2 z_1) ++ (wX1 G h2 a2 f2 A2)))) rfl rfl rfl rfl rfl hl.1 (Nat.le_of_ble_eq_true rfl) dX5_lookAround_131 (fun H locs hPD hS => ?_)
        obtain ⟨A1_2, eA1_2, h⟩ := lvl h
        have hPD : WD G DA (wX5 G h0 a0 f0 A0 ++ (wX6 G h1 a1 f1 A1_2 ++ (wX1 G h2 a2 f2 A2))) H := by rw [eA1_2]; exact hPD
        clear eA1_2
        refine lv_iinc (v := l3 + 1) (lv' := [(3, .int (l3 + 1)), (4, .int (imin ((f9_at 16 (A1 2) l3) + 1) 99)), (0, .ref h0), (1, .ref h1), (2, .ref h2)]) hx hb dX5_lookAround_134 hl (k := 4) rfl rfl (by decide) rfl (fun ls hl => ?_)
        refine lv_goto (tgt := 78) hx hb dX5_lookAround_137 (by decide) ?_
        exact hk78 A0 A1_2 (l3 + 1) h _ _ _ hPD hS (lv_sub hl [2, 3, 4, 0] rfl)
      · have h := (if_neg cc1).symm.trans h
        refine lv_iconst (v := 0) hx hb dX5_lookAround_125 (by decide) ?_
        refine lv_goto (tgt := 131) hx hb dX5_lookAround_126 (by decide) ?_
        obtain ⟨z_3, ez_3, h⟩ := lvl h
        have kc := kt_X9_put l G (a1 2) 16 (A1 2) l3 0 (by decide)
        rw [← ez_3] at kc
        clear ez_3
        refine kNV (As := [.ref (a1 2), .int l3, .int 0]) (rest := []) C0 (kc) gi_U_X9_put (host := "IdleCrimes") (index := 75) (List.mem_of_getElem? (i := 26) rfl) gw_6 gw_19 (n := 3) rfl (by decide +kernel) ⟨rfl, rfl, Nat.le_of_ble_eq_true rfl, Nat.le_of_ble_eq_true rfl⟩ hPD hS [6] [0, 1, 2, 3, 4, 5, 7, 8, 9, 10, 11, 12] [0, 1, 2, 3, 4, 5, 12, 6, 7, 8, 9, 10, 11] (wN := (wX5 G h0 a0 f0 A0 ++ (wX6 G h1 a1 f1 (updA A1 2 z_3) ++ (wX1 G h2 a2 f2 A2)))) rfl rfl rfl rfl rfl hl.1 (Nat.le_of_ble_eq_true rfl) dX5_lookAround_131 (fun H locs hPD hS => ?_)
        obtain ⟨A1_4, eA1_4, h⟩ := lvl h
        have hPD : WD G DA (wX5 G h0 a0 f0 A0 ++ (wX6 G h1 a1 f1 A1_4 ++ (wX1 G h2 a2 f2 A2))) H := by rw [eA1_4]; exact hPD
        clear eA1_4
        refine lv_iinc (v := l3 + 1) (lv' := [(3, .int (l3 + 1)), (4, .int (imin ((f9_at 16 (A1 2) l3) + 1) 99)), (0, .ref h0), (1, .ref h1), (2, .ref h2)]) hx hb dX5_lookAround_134 hl (k := 4) rfl rfl (by decide) rfl (fun ls hl => ?_)
        refine lv_goto (tgt := 78) hx hb dX5_lookAround_137 (by decide) ?_
        exact hk78 A0 A1_4 (l3 + 1) h _ _ _ hPD hS (lv_sub hl [2, 3, 4, 0] rfl)
set_option maxRecDepth 100000 in
set_option maxHeartbeats 4000000 in
theorem ww_f5_lookAround_l78  (C0 : Cx cX5_lookAround 5 none RX5 p s m args meth c G DA) {h0 : Nat} {a0 : Nat → Nat} {h1 : Nat} {a1 : Nat → Nat} {h2 : Nat} {a2 : Nat → Nat} {f0 : Nat → Int32} {f1 : Nat → Int32} {f2 : Nat → Int32} {A2 : Nat → Nat → Int32}   {res : (Nat → Nat → Int32) × (Nat → Nat → Int32)}  : ∀ (n : Nat) (A0 : Nat → Nat → Int32) (A1 : Nat → Nat → Int32) (l3 : Int32), f5_lookAround_l78 f0 f1 f2 A2  n A0 A1 l3 = some res → ∀ (H : Heap) (locs : List Loc) (ls : Array Slot), WD G DA (wX5 G h0 a0 f0 A0 ++ (wX6 G h1 a1 f1 A1 ++ (wX1 G h2 a2 f2 A2))) H → va_S DA s.heap H locs → lv_has ls 5 [(0, .ref h0), (1, .ref h1), (2, .ref h2), (3, .int l3)] → W p l e rmX5_lookAround s m args below meth c H locs 0 0 (MQ below (QV G DA (wX5 G h0 a0 f0 res.1 ++ (wX6 G h1 a1 f1 res.2 ++ (wX1 G h2 a2 f2 A2)))) args s 0 0 DA) (F0 m 78 ls []) := by
  intro n
  induction n with
  | zero => intro A0 A1 l3 h; cases h
  | succ n ih => intro A0 A1 l3 h; exact ww_f5_lookAround_b78 C0  ih A0 A1 l3 h
set_option maxRecDepth 100000 in
set_option maxHeartbeats 4000000 in
theorem ww_f5_lookAround_b26  (C0 : Cx cX5_lookAround 5 none RX5 p s m args meth c G DA) {h0 : Nat} {a0 : Nat → Nat} {h1 : Nat} {a1 : Nat → Nat} {h2 : Nat} {a2 : Nat → Nat} {f0 : Nat → Int32} {f1 : Nat → Int32} {f2 : Nat → Int32} {A2 : Nat → Nat → Int32}  {k26 : (Nat → Nat → Int32) → (Nat → Nat → Int32) → Int32 → Option ((Nat → Nat → Int32) × (Nat → Nat → Int32))} {res : (Nat → Nat → Int32) × (Nat → Nat → Int32)}  (hk26 : ∀ (A0 : Nat → Nat → Int32) (A1 : Nat → Nat → Int32) (l3 : Int32), k26 A0 A1 l3 = some res → ∀ (H : Heap) (locs : List Loc) (ls : Array Slot), WD G DA (wX5 G h0 a0 f0 A0 ++ (wX6 G h1 a1 f1 A1 ++ (wX1 G h2 a2 f2 A2))) H → va_S DA s.heap H locs → lv_has ls 5 [(0, .ref h0), (1, .ref h1), (2, .ref h2), (3, .int l3)] → W p l e rmX5_lookAround s m args below meth c H locs 0 0 (MQ below (QV G DA (wX5 G h0 a0 f0 res.1 ++ (wX6 G h1 a1 f1 res.2 ++ (wX1 G h2 a2 f2 A2)))) args s 0 0 DA) (F0 m 26 ls [])) : ∀ (A0 : Nat → Nat → Int32) (A1 : Nat → Nat → Int32) (l3 : Int32), f5_lookAround_b26 f0 f1 f2 A2  k26 A0 A1 l3 = some res → ∀ (H : Heap) (locs : List Loc) (ls : Array Slot), WD G DA (wX5 G h0 a0 f0 A0 ++ (wX6 G h1 a1 f1 A1 ++ (wX1 G h2 a2 f2 A2))) H → va_S DA s.heap H locs → lv_has ls 5 [(0, .ref h0), (1, .ref h1), (2, .ref h2), (3, .int l3)] → W p l e rmX5_lookAround s m args below meth c H locs 0 0 (MQ below (QV G DA (wX5 G h0 a0 f0 res.1 ++ (wX6 G h1 a1 f1 res.2 ++ (wX1 G h2 a2 f2 A2)))) args s 0 0 DA) (F0 m 26 ls []) := by
  obtain ⟨hx, hb, hml, hown, hts⟩ := C0.1
  have hK := C0.2.2.2.1
  intro A0 A1 l3 h _ _ _ hPD hS hl
  unfold f5_lookAround_b26 at h
  refine lv_iload_n hx hb dX5_lookAround_26 rfl (lv_at hl 3 rfl) ?_
  refine lv_bipush (v := 8) hx hb dX5_lookAround_27 (by decide) ?_
  refine lv_icmp_ge (tgt := 76) hx hb dX5_lookAround_29 (by decide) (fun cc1 => ?_) (fun cc1 => ?_)
  · have h := (if_pos cc1).symm.trans h
    refine lv_iconst (v := 0) hx hb dX5_lookAround_76 (by decide) ?_
    refine lv_istore_n (lv' := [(3, .int 0), (0, .ref h0), (1, .ref h1), (2, .ref h2)]) hx hb dX5_lookAround_77 rfl hl (by decide) rfl (fun ls hl => ?_)
    exact ww_f5_lookAround_l78 C0 NF A0 A1 0 h _ _ _ hPD hS (lv_sub hl [1, 2, 3, 0] rfl)
  · have h := (if_neg cc1).symm.trans h
    refine lv_aload_n hx hb dX5_lookAround_32 rfl (lv_at hl 1 rfl) ?_
    refine lv_iload_n hx hb dX5_lookAround_33 rfl (lv_at hl 3 rfl) ?_
    refine kVI (As := [.int l3]) (rest := []) C0 (kt_X6_isTold l G h1 a1 f1 A1 l3) gi_V_X5_61_X6_isTold (n := 1) rfl (by decide +kernel) rfl ⟨rfl, rfl, Nat.le_of_ble_eq_true rfl, Nat.le_of_ble_eq_true rfl⟩ hPD hS 3 6 rfl rfl rfl [3, 4, 5, 6, 7, 8] [0, 1, 2, 9, 10, 11, 12] [0, 1, 2, 7, 8, 9, 10, 11, 12, 3, 4, 5, 6] (wN := (wX5 G h0 a0 f0 A0 ++ (wX6 G h1 a1 f1 A1 ++ (wX1 G h2 a2 f2 A2)))) rfl rfl rfl rfl rfl hl.1 (Nat.le_of_ble_eq_true rfl) dX5_lookAround_34 (fun H locs hPD hS => ?_)
    refine lv_if_eq (tgt := 70) hx hb dX5_lookAround_37 (by decide) (fun cc1 => ?_) (fun cc1 => ?_)
    · have h := (if_pos cc1).symm.trans h
      refine lv_iinc (v := l3 + 1) (lv' := [(3, .int (l3 + 1)), (0, .ref h0), (1, .ref h1), (2, .ref h2)]) hx hb dX5_lookAround_70 hl (k := 3) rfl rfl (by decide) rfl (fun ls hl => ?_)
      refine lv_goto (tgt := 26) hx hb dX5_lookAround_73 (by decide) ?_
      exact hk26 A0 A1 (l3 + 1) h _ _ _ hPD hS (lv_sub hl [1, 2, 3, 0] rfl)
    · have h := (if_neg cc1).symm.trans h
      refine lv_aload_n hx hb dX5_lookAround_40 rfl (lv_at hl 1 rfl) ?_
      refine va_get (D := G.1) (ci := 6) (v := .ref (a1 3)) (C := RX6) (T := TX6) (N := 10) hx hb hts inlX6 hown hK hPD.1 3 rfl rfl 3 (by decide) (hts _ gw_276) (fun _ h9 => h9) rfl dX5_lookAround_41 ?_
      refine lv_iload_n hx hb dX5_lookAround_44 rfl (lv_at hl 3 rfl) ?_
      refine kNI (As := [.ref (a1 3), .int l3]) (rest := []) C0 (kt_X9_at l G (a1 3) 8 (A1 3) l3 (by decide)) gi_U_X9_at (host := "IdleCrimes") (index := 49) (List.mem_of_getElem? (i := 24) rfl) gw_6 gw_7 (n := 2) rfl (by decide +kernel) ⟨rfl, rfl, Nat.le_of_ble_eq_true rfl, Nat.le_of_ble_eq_true rfl⟩ hPD hS [7] [0, 1, 2, 3, 4, 5, 6, 8, 9, 10, 11, 12] [0, 1, 2, 3, 4, 5, 6, 12, 7, 8, 9, 10, 11] (wN := (wX5 G h0 a0 f0 A0 ++ (wX6 G h1 a1 f1 A1 ++ (wX1 G h2 a2 f2 A2)))) rfl rfl rfl rfl rfl hl.1 (Nat.le_of_ble_eq_true rfl) dX5_lookAround_45 (fun H locs hPD hS => ?_)
      refine lv_istore (lv' := [(4, .int (f9_at 8 (A1 3) l3)), (0, .ref h0), (1, .ref h1), (2, .ref h2), (3, .int l3)]) hx hb dX5_lookAround_48 hl (by decide) rfl (fun ls hl => ?_)
      refine lv_aload_n hx hb dX5_lookAround_50 rfl (lv_at hl 1 rfl) ?_
      refine va_get (D := G.1) (ci := 5) (v := .ref (a0 0)) (C := RX5) (T := TX5) (N := 4) hx hb hts inlX5 hown hK hPD.1 0 rfl rfl 0 (by decide) (hts _ gw_277) (fun _ h9 => h9) rfl dX5_lookAround_51 ?_
      refine lv_iload hx hb dX5_lookAround_54 (lv_at hl 0 rfl) ?_
      refine lv_aload_n hx hb dX5_lookAround_56 rfl (lv_at hl 1 rfl) ?_
      refine va_get (D := G.1) (ci := 5) (v := .ref (a0 0)) (C := RX5) (T := TX5) (N := 4) hx hb hts inlX5 hown hK hPD.1 0 rfl rfl 0 (by decide) (hts _ gw_277) (fun _ h9 => h9) rfl dX5_lookAround_57 ?_
      refine lv_iload hx hb dX5_lookAround_60 (lv_at hl 0 rfl) ?_
      refine kNI (As := [.ref (a0 0), .int (f9_at 8 (A1 3) l3)]) (rest := [.int (f9_at 8 (A1 3) l3), .ref (a0 0)]) C0 (kt_X9_at l G (a0 0) 16 (A0 0) (f9_at 8 (A1 3) l3) (by decide)) gi_U_X9_at (host := "IdleCrimes") (index := 49) (List.mem_of_getElem? (i := 24) rfl) gw_6 gw_7 (n := 2) rfl (by decide +kernel) ⟨rfl, rfl, Nat.le_of_ble_eq_true rfl, Nat.le_of_ble_eq_true rfl⟩ hPD hS [1] [0, 2, 3, 4, 5, 6, 7, 8, 9, 10, 11, 12] [0, 12, 1, 2, 3, 4, 5, 6, 7, 8, 9, 10, 11] (wN := (wX5 G h0 a0 f0 A0 ++ (wX6 G h1 a1 f1 A1 ++ (wX1 G h2 a2 f2 A2)))) rfl rfl rfl rfl rfl hl.1 (Nat.le_of_ble_eq_true rfl) dX5_lookAround_62 (fun H locs hPD hS => ?_)
      refine lv_iconst (v := 1) hx hb dX5_lookAround_65 (by decide) ?_
      refine lv_iadd hx hb dX5_lookAround_66 ?_
      obtain ⟨z_5, ez_5, h⟩ := lvl h
      have kc := kt_X9_put l G (a0 0) 16 (A0 0) (f9_at 8 (A1 3) l3) ((f9_at 16 (A0 0) (f9_at 8 (A1 3) l3)) + 1) (by decide)
      rw [← ez_5] at kc
      clear ez_5
      refine kNV (As := [.ref (a0 0), .int (f9_at 8 (A1 3) l3), .int ((f9_at 16 (A0 0) (f9_at 8 (A1 3) l3)) + 1)]) (rest := []) C0 (kc) gi_U_X9_put (host := "IdleCrimes") (index := 75) (List.mem_of_getElem? (i := 26) rfl) gw_6 gw_19 (n := 3) rfl (by decide +kernel) ⟨rfl, rfl, Nat.le_of_ble_eq_true rfl, Nat.le_of_ble_eq_true rfl⟩ hPD hS [1] [0, 2, 3, 4, 5, 6, 7, 8, 9, 10, 11, 12] [0, 12, 1, 2, 3, 4, 5, 6, 7, 8, 9, 10, 11] (wN := (wX5 G h0 a0 f0 (updA A0 0 z_5) ++ (wX6 G h1 a1 f1 A1 ++ (wX1 G h2 a2 f2 A2)))) rfl rfl rfl rfl rfl hl.1 (Nat.le_of_ble_eq_true rfl) dX5_lookAround_67 (fun H locs hPD hS => ?_)
      obtain ⟨A0_6, eA0_6, h⟩ := lvl h
      have hPD : WD G DA (wX5 G h0 a0 f0 A0_6 ++ (wX6 G h1 a1 f1 A1 ++ (wX1 G h2 a2 f2 A2))) H := by rw [eA0_6]; exact hPD
      clear eA0_6
      refine lv_iinc (v := l3 + 1) (lv' := [(3, .int (l3 + 1)), (4, .int (f9_at 8 (A1 3) l3)), (0, .ref h0), (1, .ref h1), (2, .ref h2)]) hx hb dX5_lookAround_70 hl (k := 4) rfl rfl (by decide) rfl (fun ls hl => ?_)
      refine lv_goto (tgt := 26) hx hb dX5_lookAround_73 (by decide) ?_
      exact hk26 A0_6 A1 (l3 + 1) h _ _ _ hPD hS (lv_sub hl [2, 3, 4, 0] rfl)
set_option maxRecDepth 100000 in
set_option maxHeartbeats 4000000 in
theorem ww_f5_lookAround_l26  (C0 : Cx cX5_lookAround 5 none RX5 p s m args meth c G DA) {h0 : Nat} {a0 : Nat → Nat} {h1 : Nat} {a1 : Nat → Nat} {h2 : Nat} {a2 : Nat → Nat} {f0 : Nat → Int32} {f1 : Nat → Int32} {f2 : Nat → Int32} {A2 : Nat → Nat → Int32}   {res : (Nat → Nat → Int32) × (Nat → Nat → Int32)}  : ∀ (n : Nat) (A0 : Nat → Nat → Int32) (A1 : Nat → Nat → Int32) (l3 : Int32), f5_lookAround_l26 f0 f1 f2 A2  n A0 A1 l3 = some res → ∀ (H : Heap) (locs : List Loc) (ls : Array Slot), WD G DA (wX5 G h0 a0 f0 A0 ++ (wX6 G h1 a1 f1 A1 ++ (wX1 G h2 a2 f2 A2))) H → va_S DA s.heap H locs → lv_has ls 5 [(0, .ref h0), (1, .ref h1), (2, .ref h2), (3, .int l3)] → W p l e rmX5_lookAround s m args below meth c H locs 0 0 (MQ below (QV G DA (wX5 G h0 a0 f0 res.1 ++ (wX6 G h1 a1 f1 res.2 ++ (wX1 G h2 a2 f2 A2)))) args s 0 0 DA) (F0 m 26 ls []) := by
  intro n
  induction n with
  | zero => intro A0 A1 l3 h; cases h
  | succ n ih => intro A0 A1 l3 h; exact ww_f5_lookAround_b26 C0  ih A0 A1 l3 h
set_option maxRecDepth 100000 in
set_option maxHeartbeats 4000000 in
theorem ww_f5_lookAround_b2  (C0 : Cx cX5_lookAround 5 none RX5 p s m args meth c G DA) {h0 : Nat} {a0 : Nat → Nat} {h1 : Nat} {a1 : Nat → Nat} {h2 : Nat} {a2 : Nat → Nat} {f0 : Nat → Int32} {f1 : Nat → Int32} {f2 : Nat → Int32} {A2 : Nat → Nat → Int32}  {k2 : (Nat → Nat → Int32) → (Nat → Nat → Int32) → Int32 → Option ((Nat → Nat → Int32) × (Nat → Nat → Int32))} {res : (Nat → Nat → Int32) × (Nat → Nat → Int32)}  (hk2 : ∀ (A0 : Nat → Nat → Int32) (A1 : Nat → Nat → Int32) (l3 : Int32), k2 A0 A1 l3 = some res → ∀ (H : Heap) (locs : List Loc) (ls : Array Slot), WD G DA (wX5 G h0 a0 f0 A0 ++ (wX6 G h1 a1 f1 A1 ++ (wX1 G h2 a2 f2 A2))) H → va_S DA s.heap H locs → lv_has ls 5 [(0, .ref h0), (1, .ref h1), (2, .ref h2), (3, .int l3)] → W p l e rmX5_lookAround s m args below meth c H locs 0 0 (MQ below (QV G DA (wX5 G h0 a0 f0 res.1 ++ (wX6 G h1 a1 f1 res.2 ++ (wX1 G h2 a2 f2 A2)))) args s 0 0 DA) (F0 m 2 ls [])) : ∀ (A0 : Nat → Nat → Int32) (A1 : Nat → Nat → Int32) (l3 : Int32), f5_lookAround_b2 f0 f1 f2 A2  k2 A0 A1 l3 = some res → ∀ (H : Heap) (locs : List Loc) (ls : Array Slot), WD G DA (wX5 G h0 a0 f0 A0 ++ (wX6 G h1 a1 f1 A1 ++ (wX1 G h2 a2 f2 A2))) H → va_S DA s.heap H locs → lv_has ls 5 [(0, .ref h0), (1, .ref h1), (2, .ref h2), (3, .int l3)] → W p l e rmX5_lookAround s m args below meth c H locs 0 0 (MQ below (QV G DA (wX5 G h0 a0 f0 res.1 ++ (wX6 G h1 a1 f1 res.2 ++ (wX1 G h2 a2 f2 A2)))) args s 0 0 DA) (F0 m 2 ls []) := by
  obtain ⟨hx, hb, hml, hown, hts⟩ := C0.1
  have hK := C0.2.2.2.1
  intro A0 A1 l3 h _ _ _ hPD hS hl
  unfold f5_lookAround_b2 at h
  refine lv_iload_n hx hb dX5_lookAround_2 rfl (lv_at hl 3 rfl) ?_
  refine lv_aload_n hx hb dX5_lookAround_3 rfl (lv_at hl 0 rfl) ?_
  refine va_get (D := G.1) (ci := 5) (v := .ref (a0 0)) (C := RX5) (T := TX5) (N := 4) hx hb hts inlX5 hown hK hPD.1 0 rfl rfl 0 (by decide) (hts _ gw_277) (fun _ h9 => h9) rfl dX5_lookAround_4 ?_
  refine va_alen (v := 16) hx hb hK hPD.1 1 1 rfl rfl rfl dX5_lookAround_7 ?_
  refine lv_icmp_ge (tgt := 24) hx hb dX5_lookAround_8 (by decide) (fun cc1 => ?_) (fun cc1 => ?_)
  · have h := (if_pos cc1).symm.trans h
    refine lv_iconst (v := 0) hx hb dX5_lookAround_24 (by decide) ?_
    refine lv_istore_n (lv' := [(3, .int 0), (0, .ref h0), (1, .ref h1), (2, .ref h2)]) hx hb dX5_lookAround_25 rfl hl (by decide) rfl (fun ls hl => ?_)
    exact ww_f5_lookAround_l26 C0 NF A0 A1 0 h _ _ _ hPD hS (lv_sub hl [1, 2, 3, 0] rfl)
  · have h := (if_neg cc1).symm.trans h
    refine lv_aload_n hx hb dX5_lookAround_11 rfl (lv_at hl 0 rfl) ?_
    refine va_get (D := G.1) (ci := 5) (v := .ref (a0 0)) (C := RX5) (T := TX5) (N := 4) hx hb hts inlX5 hown hK hPD.1 0 rfl rfl 0 (by decide) (hts _ gw_277) (fun _ h9 => h9) rfl dX5_lookAround_12 ?_
    refine lv_iload_n hx hb dX5_lookAround_15 rfl (lv_at hl 3 rfl) ?_
    refine lv_iconst (v := 0) hx hb dX5_lookAround_16 (by decide) ?_
    obtain ⟨hi_7, h⟩ := ob h
    refine va_iast hx hb hK hPD.1 hPD.2 hS 1 1 rfl rfl hi_7 dX5_lookAround_17 (fun H locs hP hD hS => ?_)
    obtain ⟨A0_8, eA0_8, h⟩ := lvl h
    have hPD : WD G DA (wX5 G h0 a0 f0 A0_8 ++ (wX6 G h1 a1 f1 A1 ++ (wX1 G h2 a2 f2 A2))) H := by rw [eA0_8]; exact ⟨hP, hD⟩
    clear eA0_8 hP hD
    refine lv_iinc (v := l3 + 1) (lv' := [(3, .int (l3 + 1)), (0, .ref h0), (1, .ref h1), (2, .ref h2)]) hx hb dX5_lookAround_18 hl (k := 3) rfl rfl (by decide) rfl (fun ls hl => ?_)
    refine lv_goto (tgt := 2) hx hb dX5_lookAround_21 (by decide) ?_
    exact hk2 A0_8 A1 (l3 + 1) h _ _ _ hPD hS (lv_sub hl [1, 2, 3, 0] rfl)
set_option maxRecDepth 100000 in
set_option maxHeartbeats 4000000 in
theorem ww_f5_lookAround_l2  (C0 : Cx cX5_lookAround 5 none RX5 p s m args meth c G DA) {h0 : Nat} {a0 : Nat → Nat} {h1 : Nat} {a1 : Nat → Nat} {h2 : Nat} {a2 : Nat → Nat} {f0 : Nat → Int32} {f1 : Nat → Int32} {f2 : Nat → Int32} {A2 : Nat → Nat → Int32}   {res : (Nat → Nat → Int32) × (Nat → Nat → Int32)}  : ∀ (n : Nat) (A0 : Nat → Nat → Int32) (A1 : Nat → Nat → Int32) (l3 : Int32), f5_lookAround_l2 f0 f1 f2 A2  n A0 A1 l3 = some res → ∀ (H : Heap) (locs : List Loc) (ls : Array Slot), WD G DA (wX5 G h0 a0 f0 A0 ++ (wX6 G h1 a1 f1 A1 ++ (wX1 G h2 a2 f2 A2))) H → va_S DA s.heap H locs → lv_has ls 5 [(0, .ref h0), (1, .ref h1), (2, .ref h2), (3, .int l3)] → W p l e rmX5_lookAround s m args below meth c H locs 0 0 (MQ below (QV G DA (wX5 G h0 a0 f0 res.1 ++ (wX6 G h1 a1 f1 res.2 ++ (wX1 G h2 a2 f2 A2)))) args s 0 0 DA) (F0 m 2 ls []) := by
  intro n
  induction n with
  | zero => intro A0 A1 l3 h; cases h
  | succ n ih => intro A0 A1 l3 h; exact ww_f5_lookAround_b2 C0  ih A0 A1 l3 h
set_option maxRecDepth 100000 in
set_option maxHeartbeats 4000000 in
theorem kt_X5_lookAround (l : Launch) (G : Gp) (h0 : Nat) (a0 : Nat → Nat) (h1 : Nat) (a1 : Nat → Nat) (h2 : Nat) (a2 : Nat → Nat) (f0 : Nat → Int32) (A0 : Nat → Nat → Int32) (f1 : Nat → Int32) (A1 : Nat → Nat → Int32) (f2 : Nat → Int32) (A2 : Nat → Nat → Int32) : ∀ {r : (Nat → Nat → Int32) × (Nat → Nat → Int32)}, f5_lookAround f0 A0 f1 A1 f2 A2 = some r → CtrV l yX5_lookAround cX5_lookAround 5 none rmX5_lookAround G [.ref h0, .ref h1, .ref h2] (wX5 G h0 a0 f0 A0 ++ (wX6 G h1 a1 f1 A1 ++ (wX1 G h2 a2 f2 A2))) (wX5 G h0 a0 f0 r.1 ++ (wX6 G h1 a1 f1 r.2 ++ (wX1 G h2 a2 f2 A2))) := by
  intro res h
  refine ctrV_of (cc := cX5_lookAround) (maxL := 5) (ret := none) (by decide +kernel) rfl (Nat.le_of_ble_eq_true rfl) (fun p e s m below meth c DA C0 hP hD ls hl => ?_)
  have hPD : WD G DA (wX5 G h0 a0 f0 A0 ++ (wX6 G h1 a1 f1 A1 ++ (wX1 G h2 a2 f2 A2))) s.heap := ⟨hP, hD⟩
  have hS : va_S DA s.heap s.heap [] := va_S.rf
  have hl : lv_has ls 5 [(0, .ref h0), (1, .ref h1), (2, .ref h2)] := hl
  obtain ⟨hx, hb, hml, hown, hts⟩ := C0.1
  have hK := C0.2.2.2.1
  unfold f5_lookAround at h
  refine lv_iconst (v := 0) hx hb dX5_lookAround_0 (by decide) ?_
  refine lv_istore_n (lv' := [(3, .int 0), (0, .ref h0), (1, .ref h1), (2, .ref h2)]) hx hb dX5_lookAround_1 rfl hl (by decide) rfl (fun ls hl => ?_)
  exact ww_f5_lookAround_l2 C0 NF A0 A1 0 h _ _ _ hPD hS (lv_sub hl [1, 2, 3, 0] rfl)
end WALK
