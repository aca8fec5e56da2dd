section WALK
variable {p : Program} {l : Launch} {e : Env} {s : State} {m : MethodId} {args : Array Value} {below : List Frame} {meth : Method} {c : Code} {G : Gp} {DA : Nat → Prop}
set_option maxRecDepth 100000 in
set_option maxHeartbeats 4000000 in
theorem ww_f4_watchOf_l12  (C0 : Cx cX4_watchOf 7 (some .int) RX4 p s m args meth c G DA) {h0 : Nat} {a0 : Nat → Nat} {h1 : Nat} {a1 : Nat → Nat} {f0 : Nat → Int32} {f1 : Nat → Int32} {A1 : Nat → Nat → Int32} {p1 : Int32} {p2 : Int32}   {res : Int32 × (Nat → Nat → Int32)}  : ∀ (n : Nat) (A0 : Nat → Nat → Int32) (l4 : Int32) (l5 : Int32) (l6 : Int32), f4_watchOf_l12 f0 f1 A1 p1 p2  n A0 l4 l5 l6 = some res → ∀ (H : Heap) (locs : List Loc) (ls : Array Slot), WD G DA (wX4 G h0 a0 f0 A0 ++ (wX1 G h1 a1 f1 A1)) H → va_S DA s.heap H locs → lv_has ls 7 [(0, .ref h0), (1, .int p1), (2, .int p2), (3, .ref h1), (4, .int l4), (5, .int l5), (6, .int l6)] → W p l e rmX4_watchOf s m args below meth c H locs 0 0 (MQ below (QI G DA res.1 (wX4 G h0 a0 f0 res.2 ++ (wX1 G h1 a1 f1 A1))) args s 0 0 DA) (F0 m 12 ls []) := by
  intro n
  induction n with
  | zero => intro A0 l4 l5 l6 h; cases h
  | succ n ih => intro A0 l4 l5 l6 h; exact ww_f4_watchOf_b12 C0  ih A0 l4 l5 l6 h
set_option maxRecDepth 100000 in
set_option maxHeartbeats 4000000 in
theorem kt_X4_watchOf (l : Launch) (G : Gp) (h0 : Nat) (a0 : Nat → Nat) (h1 : Nat) (a1 : Nat → Nat) (f0 : Nat → Int32) (A0 : Nat → Nat → Int32) (f1 : Nat → Int32) (A1 : Nat → Nat → Int32) (p1 : Int32) (p2 : Int32) : ∀ {r : Int32 × (Nat → Nat → Int32)}, f4_watchOf f0 A0 f1 A1 p1 p2 = some r → CtrI l yX4_watchOf cX4_watchOf 7 (some .int) rmX4_watchOf G [.ref h0, .int p1, .int p2, .ref h1] (wX4 G h0 a0 f0 A0 ++ (wX1 G h1 a1 f1 A1)) r.1 (wX4 G h0 a0 f0 r.2 ++ (wX1 G h1 a1 f1 A1)) := by
  intro res h
  refine ctrI_of (cc := cX4_watchOf) (maxL := 7) (ret := (some .int)) (by decide +kernel) rfl (Nat.le_of_ble_eq_true rfl) (fun p e s m below meth c DA C0 hP hD ls hl => ?_)
  have hPD : WD G DA (wX4 G h0 a0 f0 A0 ++ (wX1 G h1 a1 f1 A1)) s.heap := ⟨hP, hD⟩
  have hS : va_S DA s.heap s.heap [] := va_S.rf
  have hl : lv_has ls 7 [(0, .ref h0), (1, .int p1), (2, .int p2), (3, .ref h1)] := hl
  obtain ⟨hx, hb, hml, hown, hts⟩ := C0.1
  have hK := C0.2.2.2.1
  unfold f4_watchOf at h
  refine lv_aload_n hx hb dX4_watchOf_0 rfl (lv_at hl 3 rfl) ?_
  refine va_get (D := G.1) (ci := 1) (v := .int (f1 0)) (C := RX1) (T := TX1) (N := 4) hx hb hts inlX1 hown hK hPD.1 2 rfl rfl 0 (by decide) (hts _ gw_255) (fun _ h9 => h9) rfl dX4_watchOf_1 ?_
  refine lv_istore (lv' := [(4, .int (f1 0)), (0, .ref h0), (1, .int p1), (2, .int p2), (3, .ref h1)]) hx hb dX4_watchOf_4 hl (by decide) rfl (fun ls hl => ?_)
  refine lv_iconst (v := (-1)) hx hb dX4_watchOf_6 (by decide) ?_
  refine lv_istore (lv' := [(5, .int (-1)), (4, .int (f1 0)), (0, .ref h0), (1, .int p1), (2, .int p2), (3, .ref h1)]) hx hb dX4_watchOf_7 hl (by decide) rfl (fun ls hl => ?_)
  refine lv_iconst (v := 0) hx hb dX4_watchOf_9 (by decide) ?_
  refine lv_istore (lv' := [(6, .int 0), (5, .int (-1)), (4, .int (f1 0)), (0, .ref h0), (1, .int p1), (2, .int p2), (3, .ref h1)]) hx hb dX4_watchOf_10 hl (by decide) rfl (fun ls hl => ?_)
  exact ww_f4_watchOf_l12 C0 NF A0 (f1 0) (-1) 0 h _ _ _ hPD hS (lv_sub hl [3, 4, 5, 6, 2, 1, 0] rfl)
abbrev rmX6_isTold : Room := { frames := 2, cells := 0, slots := 0, locals := 43 }
set_option maxRecDepth 100000 in
set_option maxHeartbeats 4000000 in
theorem kt_X6_isTold (l : Launch) (G : Gp) (h0 : Nat) (a0 : Nat → Nat) (f0 : Nat → Int32) (A0 : Nat → Nat → Int32) (p1 : Int32) : CtrI l yX6_isTold cX6_isTold 2 (some .boolean) rmX6_isTold G [.ref h0, .int p1] (wX6 G h0 a0 f0 A0) (f6_isTold f0 A0 p1) (wX6 G h0 a0 f0 A0) := by
  obtain ⟨res, h⟩ : ∃ res, f6_isTold f0 A0 p1 = res := ⟨_, rfl⟩
  rw [h]
  refine ctrI_of (cc := cX6_isTold) (maxL := 2) (ret := (some .boolean)) (by decide +kernel) rfl (Nat.le_of_ble_eq_true rfl) (fun p e s m below meth c DA C0 hP hD ls hl => ?_)
  have hPD : WD G DA (wX6 G h0 a0 f0 A0) s.heap := ⟨hP, hD⟩
  have hS : va_S DA s.heap s.heap [] := va_S.rf
  have hl : lv_has ls 2 [(0, .ref h0), (1, .int p1)] := hl
  obtain ⟨hx, hb, hml, hown, hts⟩ := C0.1
  have hK := C0.2.2.2.1
  unfold f6_isTold at h
  refine lv_iload_n hx hb dX6_isTold_0 rfl (lv_at hl 1 rfl) ?_
  refine lv_iconst (v := 0) hx hb dX6_isTold_1 (by decide) ?_
  refine lv_bipush (v := 7) hx hb dX6_isTold_2 (by decide) ?_
  refine kNI (As := [.int p1, .int 0, .int 7]) (rest := []) C0 (kt_X9_within l G  p1 0 7) gi_U_X9_within (host := "IdleCrimes") (index := 51) (List.mem_of_getElem? (i := 22) rfl) gw_6 gw_25 (n := 3) rfl (by decide +kernel) ⟨rfl, rfl, Nat.le_of_ble_eq_true rfl, Nat.le_of_ble_eq_true rfl⟩ hPD hS [] [0, 1, 2, 3, 4, 5] [0, 1, 2, 3, 4, 5] (wr := (wX6 G h0 a0 f0 A0)) (wN := (wX6 G h0 a0 f0 A0)) rfl rfl rfl rfl rfl hl.1 (Nat.le_of_ble_eq_true rfl) dX6_isTold_4 (fun H locs hPD hS => ?_)
  refine lv_if_eq (tgt := 25) hx hb dX6_isTold_7 (by decide) (fun cc1 => ?_) (fun cc1 => ?_)
  · have h := (if_pos cc1).symm.trans h
    refine lv_iconst (v := 0) hx hb dX6_isTold_25 (by decide) ?_
    subst h
    exact eZ C0 hPD.1 hPD.2 hS rfl rfl dX6_isTold_26
  · have h := (if_neg cc1).symm.trans h
    refine lv_aload_n hx hb dX6_isTold_10 rfl (lv_at hl 0 rfl) ?_
    refine va_get (D := G.1) (ci := 6) (v := .int (f0 5)) (C := RX6) (T := TX6) (N := 10) hx hb hts inlX6 hown hK hPD.1 0 rfl rfl 5 (by decide) (hts _ gw_260) (fun _ h9 => h9) rfl dX6_isTold_11 ?_
    refine lv_iload_n hx hb dX6_isTold_14 rfl (lv_at hl 1 rfl) ?_
    refine kNI (As := [.int (f0 5), .int p1]) (rest := []) C0 (kt_X9_has l G  (f0 5) p1) gi_U_X9_has (host := "IdleCrimes") (index := 55) (List.mem_of_getElem? (i := 23) rfl) gw_6 gw_74 (n := 2) rfl (by decide +kernel) ⟨rfl, rfl, Nat.le_of_ble_eq_true rfl, Nat.le_of_ble_eq_true rfl⟩ hPD hS [] [0, 1, 2, 3, 4, 5] [0, 1, 2, 3, 4, 5] (wr := (wX6 G h0 a0 f0 A0)) (wN := (wX6 G h0 a0 f0 A0)) rfl rfl rfl rfl rfl hl.1 (Nat.le_of_ble_eq_true rfl) dX6_isTold_15 (fun H locs hPD hS => ?_)
    refine lv_if_eq (tgt := 25) hx hb dX6_isTold_18 (by decide) (fun cc1 => ?_) (fun cc1 => ?_)
    · have h := (if_pos cc1).symm.trans h
      refine lv_iconst (v := 0) hx hb dX6_isTold_25 (by decide) ?_
      subst h
      exact eZ C0 hPD.1 hPD.2 hS rfl rfl dX6_isTold_26
    · have h := (if_neg cc1).symm.trans h
      refine lv_iconst (v := 1) hx hb dX6_isTold_21 (by decide) ?_
      refine lv_goto (tgt := 26) hx hb dX6_isTold_22 (by decide) ?_
      subst h
      exact eZ C0 hPD.1 hPD.2 hS rfl rfl dX6_isTold_26
abbrev rmX5_walk : Room := { frames := 3, cells := 0, slots := 0, locals := 64 }
set_option maxRecDepth 100000 in
set_option maxHeartbeats 4000000 in
theorem ww_f5_walk_b2  (C0 : Cx cX5_walk 6 none RX5 p s m args meth c G DA) {h0 : Nat} {a0 : Nat → Nat} {h1 : Nat} {a1 : Nat → Nat} {q2 : Nat} {g2 : Nat → Nat} {aB2 : Nat → Nat → Nat} {f0 : Nat → Int32} {f1 : Nat → Int32} {A1 : Nat → Nat → Int32} {fB2 : Nat → Nat → Int32} {AB2 : Nat → Nat → Nat → Int32}  {k2 : (Nat → Nat → Int32) → Int32 → Option ((Nat → Nat → Int32))} {res : (Nat → Nat → Int32)}  (hk2 : ∀ (A0 : Nat → Nat → Int32) (l3 : Int32), k2 A0 l3 = some res → ∀ (H : Heap) (locs : List Loc) (ls : Array Slot), WD G DA (wX6 G h0 a0 f0 A0 ++ (wX1 G h1 a1 f1 A1 ++ (wB G q2 g2 aB2 fB2 AB2))) H → va_S DA s.heap H locs → lv_has ls 6 [(0, .ref h0), (1, .ref h1), (2, .ref q2), (3, .int l3)] → W p l e rmX5_walk s m args below meth c H locs 0 0 (MQ below (QV G DA (wX6 G h0 a0 f0 res ++ (wX1 G h1 a1 f1 A1 ++ (wB G q2 g2 aB2 fB2 AB2)))) args s 0 0 DA) (F0 m 2 ls [])) : ∀ (A0 : Nat → Nat → Int32) (l3 : Int32), f5_walk_b2 f0 f1 A1 fB2 AB2  k2 A0 l3 = some res → ∀ (H : Heap) (locs : List Loc) (ls : Array Slot), WD G DA (wX6 G h0 a0 f0 A0 ++ (wX1 G h1 a1 f1 A1 ++ (wB G q2 g2 aB2 fB2 AB2))) H → va_S DA s.heap H locs → lv_has ls 6 [(0, .ref h0), (1, .ref h1), (2, .ref q2), (3, .int l3)] → W p l e rmX5_walk s m args below meth c H locs 0 0 (MQ below (QV G DA (wX6 G h0 a0 f0 res ++ (wX1 G h1 a1 f1 A1 ++ (wB G q2 g2 aB2 fB2 AB2)))) args s 0 0 DA) (F0 m 2 ls []) := by
  obtain ⟨hx, hb, hml, hown, hts⟩ := C0.1
  have hK := C0.2.2.2.1
  intro A0 l3 h _ _ _ hPD hS hl
  unfold f5_walk_b2 at h
  refine lv_iload_n hx hb dX5_walk_2 rfl (lv_at hl 3 rfl) ?_
  refine lv_aload_n hx hb dX5_walk_3 rfl (lv_at hl 2 rfl) ?_
  refine va_alen (v := 8) hx hb hK hPD.1 10 2 rfl rfl rfl dX5_walk_4 ?_
  refine lv_icmp_ge (tgt := 85) hx hb dX5_walk_5 (by decide) (fun cc1 => ?_) (fun cc1 => ?_)
  · have h := (if_pos cc1).symm.trans h
    obtain rfl := Option.some.inj h
    exact eV C0 hPD.1 hPD.2 hS dX5_walk_85
  · have h := (if_neg cc1).symm.trans h
    refine lv_aload_n hx hb dX5_walk_8 rfl (lv_at hl 2 rfl) ?_
    refine lv_iload_n hx hb dX5_walk_9 rfl (lv_at hl 3 rfl) ?_
    obtain ⟨hi_1, h⟩ := ob h
    obtain ⟨b_2, eb_2, h⟩ := lvl h
    have hb_3 := bts_lt hi_1 eb_2
    refine va_aldB hx hb hK hPD.1 10 2 rfl rfl hi_1 eb_2 dX5_walk_10 ?_
    rcases lt8 hb_3 with rfl | rfl | rfl | rfl | rfl | rfl | rfl | rfl
    · refine lv_astore (lv' := [(4, .ref (g2 0)), (0, .ref h0), (1, .ref h1), (2, .ref q2), (3, .int l3)]) hx hb dX5_walk_11 hl (by decide) rfl (fun ls hl => ?_)
      refine lv_aload hx hb dX5_walk_13 (lv_at hl 0 rfl) ?_
      refine lv_ifnull hx hb dX5_walk_15 ?_
      refine lv_aload_n hx hb dX5_walk_18 rfl (lv_at hl 1 rfl) ?_
      refine lv_iload_n hx hb dX5_walk_19 rfl (lv_at hl 4 rfl) ?_
      refine kVI (As := [.int l3]) (rest := []) C0 (kt_X6_isTold l G h0 a0 f0 A0 l3) gi_V_X5_61_X6_isTold (n := 1) rfl (by decide +kernel) rfl ⟨rfl, rfl, Nat.le_of_ble_eq_true rfl, Nat.le_of_ble_eq_true rfl⟩ hPD hS 0 6 rfl rfl rfl [0, 1, 2, 3, 4, 5] [6, 7, 8, 9, 10, 11, 12, 13, 14, 15, 16, 17, 18, 19, 20, 21, 22, 23, 24, 25, 26] [21, 22, 23, 24, 25, 26, 0, 1, 2, 3, 4, 5, 6, 7, 8, 9, 10, 11, 12, 13, 14, 15, 16, 17, 18, 19, 20] (wr := (wX1 G h1 a1 f1 A1 ++ (wB G q2 g2 aB2 fB2 AB2))) (wN := (wX6 G h0 a0 f0 A0 ++ (wX1 G h1 a1 f1 A1 ++ (wB G q2 g2 aB2 fB2 AB2)))) rfl rfl rfl rfl rfl hl.1 (Nat.le_of_ble_eq_true rfl) dX5_walk_20 (fun H locs hPD hS => ?_)
      refine lv_if_eq (tgt := 79) hx hb dX5_walk_23 (by decide) (fun cc1 => ?_) (fun cc1 => ?_)
      · have h := (if_pos cc1).symm.trans h
        refine lv_iinc (v := l3 + 1) (lv' := [(3, .int (l3 + 1)), (4, .ref (g2 0)), (0, .ref h0), (1, .ref h1), (2, .ref q2)]) hx hb dX5_walk_79 hl (k := 4) rfl rfl (by decide) rfl (fun ls hl => ?_)
        refine lv_goto (tgt := 2) hx hb dX5_walk_82 (by decide) ?_
        exact hk2 A0 (l3 + 1) h _ _ _ hPD hS (lv_sub hl [2, 3, 4, 0] rfl)
      · have h := (if_neg cc1).symm.trans h
        refine lv_aload hx hb dX5_walk_26 (lv_at hl 0 rfl) ?_
        refine lv_aload_n hx hb dX5_walk_28 rfl (lv_at hl 1 rfl) ?_
        refine va_get (D := G.1) (ci := 6) (v := .int (f0 8)) (C := RX6) (T := TX6) (N := 10) hx hb hts inlX6 hown hK hPD.1 0 rfl rfl 8 (by decide) (hts _ gw_266) (fun _ h9 => h9) rfl dX5_walk_29 ?_
        obtain ⟨q_4, hq_4, h⟩ := ob2 h
        refine kVI (As := [.int (f0 8)]) (rest := []) C0 (kt_X0_stepAt l G (g2 0) (aB2 0) (fB2 0) (AB2 0) (f0 8) hq_4) gi_V_X5_62_X0_stepAt (n := 1) rfl (by decide +kernel) rfl ⟨rfl, rfl, Nat.le_of_ble_eq_true rfl, Nat.le_of_ble_eq_true rfl⟩ hPD hS 11 0 rfl rfl rfl [11, 12] [0, 1, 2, 3, 4, 5, 6, 7, 8, 9, 10, 13, 14, 15, 16, 17, 18, 19, 20, 21, 22, 23, 24, 25, 26] [0, 1, 2, 3, 4, 5, 6, 7, 8, 9, 10, 25, 26, 11, 12, 13, 14, 15, 16, 17, 18, 19, 20, 21, 22, 23, 24] (wr := pick (wX6 G h0 a0 f0 A0 ++ (wX1 G h1 a1 f1 A1 ++ (wB G q2 g2 aB2 fB2 AB2))) [0, 1, 2, 3, 4, 5, 6, 7, 8, 9, 10, 13, 14, 15, 16, 17, 18, 19, 20, 21, 22, 23, 24, 25, 26]) (wN := (wX6 G h0 a0 f0 A0 ++ (wX1 G h1 a1 f1 A1 ++ (wB G q2 g2 aB2 fB2 AB2)))) rfl rfl rfl rfl rfl hl.1 (Nat.le_of_ble_eq_true rfl) dX5_walk_32 (fun H locs hPD hS => ?_)
        refine lv_istore (lv' := [(5, .int q_4), (4, .ref (g2 0)), (0, .ref h0), (1, .ref h1), (2, .ref q2), (3, .int l3)]) hx hb dX5_walk_35 hl (by decide) rfl (fun ls hl => ?_)
        refine lv_aload_n hx hb dX5_walk_37 rfl (lv_at hl 3 rfl) ?_
        refine lv_iload hx hb dX5_walk_38 (lv_at hl 0 rfl) ?_
        refine kVI (As := [.int q_4]) (rest := []) C0 (kt_X1_isTold l G h1 a1 f1 A1 q_4) gi_V_X5_40_X1_isTold (n := 1) rfl (by decide +kernel) rfl ⟨rfl, rfl, Nat.le_of_ble_eq_true rfl, Nat.le_of_ble_eq_true rfl⟩ hPD hS 6 1 rfl rfl rfl [6, 7, 8, 9] [0, 1, 2, 3, 4, 5, 10, 11, 12, 13, 14, 15, 16, 17, 18, 19, 20, 21, 22, 23, 24, 25, 26] [0, 1, 2, 3, 4, 5, 23, 24, 25, 26, 6, 7, 8, 9, 10, 11, 12, 13, 14, 15, 16, 17, 18, 19, 20, 21, 22] (wr := (wX6 G h0 a0 f0 A0 ++ (wB G q2 g2 aB2 fB2 AB2))) (wN := (wX6 G h0 a0 f0 A0 ++ (wX1 G h1 a1 f1 A1 ++ (wB G q2 g2 aB2 fB2 AB2)))) rfl rfl rfl rfl rfl hl.1 (Nat.le_of_ble_eq_true rfl) dX5_walk_40 (fun H locs hPD hS => ?_)
        refine lv_if_eq (tgt := 79) hx hb dX5_walk_43 (by decide) (fun cc1 => ?_) (fun cc1 => ?_)
        · have h := (if_pos cc1).symm.trans h
          refine lv_iinc (v := l3 + 1) (lv' := [(3, .int (l3 + 1)), (5, .int q_4), (4, .ref (g2 0)), (0, .ref h0), (1, .ref h1), (2, .ref q2)]) hx hb dX5_walk_79 hl (k := 5) rfl rfl (by decide) rfl (fun ls hl => ?_)
          refine lv_goto (tgt := 2) hx hb dX5_walk_82 (by decide) ?_
          exact hk2 A0 (l3 + 1) h _ _ _ hPD hS (lv_sub hl [3, 4, 5, 0] rfl)
        · have h := (if_neg cc1).symm.trans h
          refine lv_aload_n hx hb dX5_walk_46 rfl (lv_at hl 3 rfl) ?_
          refine va_get (D := G.1) (ci := 1) (v := .ref (a1 1)) (C := RX1) (T := TX1) (N := 4) hx hb hts inlX1 hown hK hPD.1 6 rfl rfl 1 (by decide) (hts _ gw_272) (fun _ h9 => h9) rfl dX5_walk_47 ?_
          refine lv_aload_n hx hb dX5_walk_50 rfl (lv_at hl 2 rfl) ?_
          refine va_get (D := G.1) (ci := 6) (v := .ref (a0 3)) (C := RX6) (T := TX6) (N := 10) hx hb hts inlX6 hown hK hPD.1 0 rfl rfl 3 (by decide) (hts _ gw_273) (fun _ h9 => h9) rfl dX5_walk_51 ?_
          refine lv_iload_n hx hb dX5_walk_54 rfl (lv_at hl 5 rfl) ?_
          refine kNI (As := [.ref (a0 3), .int l3]) (rest := [.ref (a1 1)]) C0 (kt_X9_at l G (a0 3) 8 (A0 3) l3 (by decide)) gi_U_X9_at (host := "IdleCrimes") (index := 49) (List.mem_of_getElem? (i := 24) rfl) gw_6 gw_7 (n := 2) rfl (by decide +kernel) ⟨rfl, rfl, Nat.le_of_ble_eq_true rfl, Nat.le_of_ble_eq_true rfl⟩ hPD hS [4] [0, 1, 2, 3, 5, 6, 7, 8, 9, 10, 11, 12, 13, 14, 15, 16, 17, 18, 19, 20, 21, 22, 23, 24, 25, 26] [0, 1, 2, 3, 26, 4, 5, 6, 7, 8, 9, 10, 11, 12, 13, 14, 15, 16, 17, 18, 19, 20, 21, 22, 23, 24, 25] (wr := pick (wX6 G h0 a0 f0 A0 ++ (wX1 G h1 a1 f1 A1 ++ (wB G q2 g2 aB2 fB2 AB2))) [0, 1, 2, 3, 5, 6, 7, 8, 9, 10, 11, 12, 13, 14, 15, 16, 17, 18, 19, 20, 21, 22, 23, 24, 25, 26]) (wN := (wX6 G h0 a0 f0 A0 ++ (wX1 G h1 a1 f1 A1 ++ (wB G q2 g2 aB2 fB2 AB2)))) rfl rfl rfl rfl rfl hl.1 (Nat.le_of_ble_eq_true rfl) dX5_walk_55 (fun H locs hPD hS => ?_)
          refine kNI (As := [.ref (a1 1), .int (f9_at 8 (A0 3) l3)]) (rest := []) C0 (kt_X9_at l G (a1 1) 16 (A1 1) (f9_at 8 (A0 3) l3) (by decide)) gi_U_X9_at (host := "IdleCrimes") (index := 49) (List.mem_of_getElem? (i := 24) rfl) gw_6 gw_7 (n := 2) rfl (by decide +kernel) ⟨rfl, rfl, Nat.le_of_ble_eq_true rfl, Nat.le_of_ble_eq_true rfl⟩ hPD hS [7] [0, 1, 2, 3, 4, 5, 6, 8, 9, 10, 11, 12, 13, 14, 15, 16, 17, 18, 19, 20, 21, 22, 23, 24, 25, 26] [0, 1, 2, 3, 4, 5, 6, 26, 7, 8, 9, 10, 11, 12, 13, 14, 15, 16, 17, 18, 19, 20, 21, 22, 23, 24, 25] (wr := pick (wX6 G h0 a0 f0 A0 ++ (wX1 G h1 a1 f1 A1 ++ (wB G q2 g2 aB2 fB2 AB2))) [0, 1, 2, 3, 4, 5, 6, 8, 9, 10, 11, 12, 13, 14, 15, 16, 17, 18, 19, 20, 21, 22, 23, 24, 25, 26]) (wN := (wX6 G h0 a0 f0 A0 ++ (wX1 G h1 a1 f1 A1 ++ (wB G q2 g2 aB2 fB2 AB2)))) rfl rfl rfl rfl rfl hl.1 (Nat.le_of_ble_eq_true rfl) dX5_walk_58 (fun H locs hPD hS => ?_)
          refine lv_iload hx hb dX5_walk_61 (lv_at hl 0 rfl) ?_
          refine kNI (As := [.int (f9_at 16 (A1 1) (f9_at 8 (A0 3) l3)), .int q_4]) (rest := []) C0 (kt_X9_has l G  (f9_at 16 (A1 1) (f9_at 8 (A0 3) l3)) q_4) gi_U_X9_has (host := "IdleCrimes") (index := 71) (List.mem_of_getElem? (i := 25) rfl) gw_6 gw_74 (n := 2) rfl (by decide +kernel) ⟨rfl, rfl, Nat.le_of_ble_eq_true rfl, Nat.le_of_ble_eq_true rfl⟩ hPD hS [] [0, 1, 2, 3, 4, 5, 6, 7, 8, 9, 10, 11, 12, 13, 14, 15, 16, 17, 18, 19, 20, 21, 22, 23, 24, 25, 26] [0, 1, 2, 3, 4, 5, 6, 7, 8, 9, 10, 11, 12, 13, 14, 15, 16, 17, 18, 19, 20, 21, 22, 23, 24, 25, 26] (wr := (wX6 G h0 a0 f0 A0 ++ (wX1 G h1 a1 f1 A1 ++ (wB G q2 g2 aB2 fB2 AB2)))) (wN := (wX6 G h0 a0 f0 A0 ++ (wX1 G h1 a1 f1 A1 ++ (wB G q2 g2 aB2 fB2 AB2)))) rfl rfl rfl rfl rfl hl.1 (Nat.le_of_ble_eq_true rfl) dX5_walk_63 (fun H locs hPD hS => ?_)
          refine lv_if_eq (tgt := 79) hx hb dX5_walk_66 (by decide) (fun cc1 => ?_) (fun cc1 => ?_)
          · have h := (if_pos cc1).symm.trans h
            refine lv_iinc (v := l3 + 1) (lv' := [(3, .int (l3 + 1)), (5, .int q_4), (4, .ref (g2 0)), (0, .ref h0), (1, .ref h1), (2, .ref q2)]) hx hb dX5_walk_79 hl (k := 5) rfl rfl (by decide) rfl (fun ls hl => ?_)
            refine lv_goto (tgt := 2) hx hb dX5_walk_82 (by decide) ?_
            exact hk2 A0 (l3 + 1) h _ _ _ hPD hS (lv_sub hl [3, 4, 5, 0] rfl)
          · have h := (if_neg cc1).symm.trans h
            refine lv_aload_n hx hb dX5_walk_69 rfl (lv_at hl 2 rfl) ?_
            refine va_get (D := G.1) (ci := 6) (v := .ref (a0 3)) (C := RX6) (T := TX6) (N := 10) hx hb hts inlX6 hown hK hPD.1 0 rfl rfl 3 (by decide) (hts _ gw_273) (fun _ h9 => h9) rfl dX5_walk_70 ?_
            refine lv_iload_n hx hb dX5_walk_73 rfl (lv_at hl 5 rfl) ?_
            refine lv_iload hx hb dX5_walk_74 (lv_at hl 0 rfl) ?_
            obtain ⟨z_5, ez_5, h⟩ := lvl h
            have kc := kt_X9_put l G (a0 3) 8 (A0 3) l3 q_4 (by decide)
            rw [← ez_5] at kc
            clear ez_5
            refine kNV (As := [.ref (a0 3), .int l3, .int q_4]) (rest := []) C0 (kc) gi_U_X9_put (host := "IdleCrimes") (index := 75) (List.mem_of_getElem? (i := 26) rfl) gw_6 gw_19 (n := 3) rfl (by decide +kernel) ⟨rfl, rfl, Nat.le_of_ble_eq_true rfl, Nat.le_of_ble_eq_true rfl⟩ hPD hS [4] [0, 1, 2, 3, 5, 6, 7, 8, 9, 10, 11, 12, 13, 14, 15, 16, 17, 18, 19, 20, 21, 22, 23, 24, 25, 26] [0, 1, 2, 3, 26, 4, 5, 6, 7, 8, 9, 10, 11, 12, 13, 14, 15, 16, 17, 18, 19, 20, 21, 22, 23, 24, 25] (wr := pick (wX6 G h0 a0 f0 A0 ++ (wX1 G h1 a1 f1 A1 ++ (wB G q2 g2 aB2 fB2 AB2))) [0, 1, 2, 3, 5, 6, 7, 8, 9, 10, 11, 12, 13, 14, 15, 16, 17, 18, 19, 20, 21, 22, 23, 24, 25, 26]) (wN := (wX6 G h0 a0 f0 (updA A0 3 z_5) ++ (wX1 G h1 a1 f1 A1 ++ (wB G q2 g2 aB2 fB2 AB2)))) rfl rfl rfl rfl rfl hl.1 (Nat.le_of_ble_eq_true rfl) dX5_walk_76 (fun H locs hPD hS => ?_)
            obtain ⟨A0_6, eA0_6, h⟩ := lvl h
            have hPD : WD G DA (wX6 G h0 a0 f0 A0_6 ++ (wX1 G h1 a1 f1 A1 ++ (wB G q2 g2 aB2 fB2 AB2))) H := by rw [eA0_6]; exact hPD
            clear eA0_6
            refine lv_iinc (v := l3 + 1) (lv' := [(3, .int (l3 + 1)), (5, .int q_4), (4, .ref (g2 0)), (0, .ref h0), (1, .ref h1), (2, .ref q2)]) hx hb dX5_walk_79 hl (k := 5) rfl rfl (by decide) rfl (fun ls hl => ?_)
            refine lv_goto (tgt := 2) hx hb dX5_walk_82 (by decide) ?_
            exact hk2 A0_6 (l3 + 1) h _ _ _ hPD hS (lv_sub hl [3, 4, 5, 0] rfl)
    · refine lv_astore (lv' := [(4, .ref (g2 1)), (0, .ref h0), (1, .ref h1), (2, .ref q2), (3, .int l3)]) hx hb dX5_walk_11 hl (by decide) rfl (fun ls hl => ?_)
      refine lv_aload hx hb dX5_walk_13 (lv_at hl 0 rfl) ?_
      refine lv_ifnull hx hb dX5_walk_15 ?_
      refine lv_aload_n hx hb dX5_walk_18 rfl (lv_at hl 1 rfl) ?_
      refine lv_iload_n hx hb dX5_walk_19 rfl (lv_at hl 4 rfl) ?_
      refine kVI (As := [.int l3]) (rest := []) C0 (kt_X6_isTold l G h0 a0 f0 A0 l3) gi_V_X5_61_X6_isTold (n := 1) rfl (by decide +kernel) rfl ⟨rfl, rfl, Nat.le_of_ble_eq_true rfl, Nat.le_of_ble_eq_true rfl⟩ hPD hS 0 6 rfl rfl rfl [0, 1, 2, 3, 4, 5] [6, 7, 8, 9, 10, 11, 12, 13, 14, 15, 16, 17, 18, 19, 20, 21, 22, 23, 24, 25, 26] [21, 22, 23, 24, 25, 26, 0, 1, 2, 3, 4, 5, 6, 7, 8, 9, 10, 11, 12, 13, 14, 15, 16, 17, 18, 19, 20] (wr := (wX1 G h1 a1 f1 A1 ++ (wB G q2 g2 aB2 fB2 AB2))) (wN := (wX6 G h0 a0 f0 A0 ++ (wX1 G h1 a1 f1 A1 ++ (wB G q2 g2 aB2 fB2 AB2)))) rfl rfl rfl rfl rfl hl.1 (Nat.le_of_ble_eq_true rfl) dX5_walk_20 (fun H locs hPD hS => ?_)
      refine lv_if_eq (tgt := 79) hx hb dX5_walk_23 (by decide) (fun cc1 => ?_) (fun cc1 => ?_)
      · have h := (if_pos cc1).symm.trans h
        refine lv_iinc (v := l3 + 1) (lv' := [(3, .int (l3 + 1)), (4, .ref (g2 1)), (0, .ref h0), (1, .ref h1), (2, .ref q2)]) hx hb dX5_walk_79 hl (k := 4) rfl rfl (by decide) rfl (fun ls hl => ?_)
        refine lv_goto (tgt := 2) hx hb dX5_walk_82 (by decide) ?_
        exact hk2 A0 (l3 + 1) h _ _ _ hPD hS (lv_sub hl [2, 3, 4, 0] rfl)
      · have h := (if_neg cc1).symm.trans h
        refine lv_aload hx hb dX5_walk_26 (lv_at hl 0 rfl) ?_
        refine lv_aload_n hx hb dX5_walk_28 rfl (lv_at hl 1 rfl) ?_
        refine va_get (D := G.1) (ci := 6) (v := .int (f0 8)) (C := RX6) (T := TX6) (N := 10) hx hb hts inlX6 hown hK hPD.1 0 rfl rfl 8 (by decide) (hts _ gw_266) (fun _ h9 => h9) rfl dX5_walk_29 ?_
        obtain ⟨q_4, hq_4, h⟩ := ob2 h
        refine kVI (As := [.int (f0 8)]) (rest := []) C0 (kt_X0_stepAt l G (g2 1) (aB2 1) (fB2 1) (AB2 1) (f0 8) hq_4) gi_V_X5_62_X0_stepAt (n := 1) rfl (by decide +kernel) rfl ⟨rfl, rfl, Nat.le_of_ble_eq_true rfl, Nat.le_of_ble_eq_true rfl⟩ hPD hS 13 0 rfl rfl rfl [13, 14] [0, 1, 2, 3, 4, 5, 6, 7, 8, 9, 10, 11, 12, 15, 16, 17, 18, 19, 20, 21, 22, 23, 24, 25, 26] [0, 1, 2, 3, 4, 5, 6, 7, 8, 9, 10, 11, 12, 25, 26, 13, 14, 15, 16, 17, 18, 19, 20, 21, 22, 23, 24] (wr := pick (wX6 G h0 a0 f0 A0 ++ (wX1 G h1 a1 f1 A1 ++ (wB G q2 g2 aB2 fB2 AB2))) [0, 1, 2, 3, 4, 5, 6, 7, 8, 9, 10, 11, 12, 15, 16, 17, 18, 19, 20, 21, 22, 23, 24, 25, 26]) (wN := (wX6 G h0 a0 f0 A0 ++ (wX1 G h1 a1 f1 A1 ++ (wB G q2 g2 aB2 fB2 AB2)))) rfl rfl rfl rfl rfl hl.1 (Nat.le_of_ble_eq_true rfl) dX5_walk_32 (fun H locs hPD hS => ?_)
        refine lv_istore (lv' := [(5, .int q_4), (4, .ref (g2 1)), (0, .ref h0), (1, .ref h1), (2, .ref q2), (3, .int l3)]) hx hb dX5_walk_35 hl (by decide) rfl (fun ls hl => ?_)
        refine lv_aload_n hx hb dX5_walk_37 rfl (lv_at hl 3 rfl) ?_
        refine lv_iload hx hb dX5_walk_38 (lv_at hl 0 rfl) ?_
        refine kVI (As := [.int q_4]) (rest := []) C0 (kt_X1_isTold l G h1 a1 f1 A1 q_4) gi_V_X5_40_X1_isTold (n := 1) rfl (by decide +kernel) rfl ⟨rfl, rfl, Nat.le_of_ble_eq_true rfl, Nat.le_of_ble_eq_true rfl⟩ hPD hS 6 1 rfl rfl rfl [6, 7, 8, 9] [0, 1, 2, 3, 4, 5, 10, 11, 12, 13, 14, 15, 16, 17, 18, 19, 20, 21, 22, 23, 24, 25, 26] [0, 1, 2, 3, 4, 5, 23, 24, 25, 26, 6, 7, 8, 9, 10, 11, 12, 13, 14, 15, 16, 17, 18, 19, 20, 21, 22] (wr := (wX6 G h0 a0 f0 A0 ++ (wB G q2 g2 aB2 fB2 AB2))) (wN := (wX6 G h0 a0 f0 A0 ++ (wX1 G h1 a1 f1 A1 ++ (wB G q2 g2 aB2 fB2 AB2)))) rfl rfl rfl rfl rfl hl.1 (Nat.le_of_ble_eq_true rfl) dX5_walk_40 (fun H locs hPD hS => ?_)
        refine lv_if_eq (tgt := 79) hx hb dX5_walk_43 (by decide) (fun cc1 => ?_) (fun cc1 => ?_)
        · have h := (if_pos cc1).symm.trans h
          refine lv_iinc (v := l3 + 1) (lv' := [(3, .int (l3 + 1)), (5, .int q_4), (4, .ref (g2 1)), (0, .ref h0), (1, .ref h1), (2, .ref q2)]) hx hb dX5_walk_79 hl (k := 5) rfl rfl (by decide) rfl (fun ls hl => ?_)
          refine lv_goto (tgt := 2) hx hb dX5_walk_82 (by decide) ?_
          exact hk2 A0 (l3 + 1) h _ _ _ hPD hS (lv_sub hl [3, 4, 5, 0] rfl)
        · have h := (if_neg cc1).symm.trans h
          refine lv_aload_n hx hb dX5_walk_46 rfl (lv_at hl 3 rfl) ?_
          refine va_get (D := G.1) (ci := 1) (v := .ref (a1 1)) (C := RX1) (T := TX1) (N := 4) hx hb hts inlX1 hown hK hPD.1 6 rfl rfl 1 (by decide) (hts _ gw_272) (fun _ h9 => h9) rfl dX5_walk_47 ?_
          refine lv_aload_n hx hb dX5_walk_50 rfl (lv_at hl 2 rfl) ?_
          refine va_get (D := G.1) (ci := 6) (v := .ref (a0 3)) (C := RX6) (T := TX6) (N := 10) hx hb hts inlX6 hown hK hPD.1 0 rfl rfl 3 (by decide) (hts _ gw_273) (fun _ h9 => h9) rfl dX5_walk_51 ?_
          refine lv_iload_n hx hb dX5_walk_54 rfl (lv_at hl 5 rfl) ?_
          refine kNI (As := [.ref (a0 3), .int l3]) (rest := [.ref (a1 1)]) C0 (kt_X9_at l G (a0 3) 8 (A0 3) l3 (by decide)) gi_U_X9_at (host := "IdleCrimes") (index := 49) (List.mem_of_getElem? (i := 24) rfl) gw_6 gw_7 (n := 2) rfl (by decide +kernel) ⟨rfl, rfl, Nat.le_of_ble_eq_true rfl, Nat.le_of_ble_eq_true rfl⟩ hPD hS [4] [0, 1, 2, 3, 5, 6, 7, 8, 9, 10, 11, 12, 13, 14, 15, 16, 17, 18, 19, 20, 21, 22, 23, 24, 25, 26] [0, 1, 2, 3, 26, 4, 5, 6, 7, 8, 9, 10, 11, 12, 13, 14, 15, 16, 17, 18, 19, 20, 21, 22, 23, 24, 25] (wr := pick (wX6 G h0 a0 f0 A0 ++ (wX1 G h1 a1 f1 A1 ++ (wB G q2 g2 aB2 fB2 AB2))) [0, 1, 2, 3, 5, 6, 7, 8, 9, 10, 11, 12, 13, 14, 15, 16, 17, 18, 19, 20, 21, 22, 23, 24, 25, 26]) (wN := (wX6 G h0 a0 f0 A0 ++ (wX1 G h1 a1 f1 A1 ++ (wB G q2 g2 aB2 fB2 AB2)))) rfl rfl rfl rfl rfl hl.1 (Nat.le_of_ble_eq_true rfl) dX5_walk_55 (fun H locs hPD hS => ?_)
          refine kNI (As := [.ref (a1 1), .int (f9_at 8 (A0 3) l3)]) (rest := []) C0 (kt_X9_at l G (a1 1) 16 (A1 1) (f9_at 8 (A0 3) l3) (by decide)) gi_U_X9_at (host := "IdleCrimes") (index := 49) (List.mem_of_getElem? (i := 24) rfl) gw_6 gw_7 (n := 2) rfl (by decide +kernel) ⟨rfl, rfl, Nat.le_of_ble_eq_true rfl, Nat.le_of_ble_eq_true rfl⟩ hPD hS [7] [0, 1, 2, 3, 4, 5, 6, 8, 9, 10, 11, 12, 13, 14, 15, 16, 17, 18, 19, 20, 21, 22, 23, 24, 25, 26] [0, 1, 2, 3, 4, 5, 6, 26, 7, 8, 9, 10, 11, 12, 13, 14, 15, 16, 17, 18, 19, 20, 21, 22, 23, 24, 25] (wr := pick (wX6 G h0 a0 f0 A0 ++ (wX1 G h1 a1 f1 A1 ++ (wB G q2 g2 aB2 fB2 AB2))) [0, 1, 2, 3, 4, 5, 6, 8, 9, 10, 11, 12, 13, 14, 15, 16, 17, 18, 19, 20, 21, 22, 23, 24, 25, 26]) (wN := (wX6 G h0 a0 f0 A0 ++ (wX1 G h1 a1 f1 A1 ++ (wB G q2 g2 aB2 fB2 AB2)))) rfl rfl rfl rfl rfl hl.1 (Nat.le_of_ble_eq_true rfl) dX5_walk_58 (fun H locs hPD hS => ?_)
          refine lv_iload hx hb dX5_walk_61 (lv_at hl 0 rfl) ?_
          refine kNI (As := [.int (f9_at 16 (A1 1) (f9_at 8 (A0 3) l3)), .int q_4]) (rest := []) C0 (kt_X9_has l G  (f9_at 16 (A1 1) (f9_at 8 (A0 3) l3)) q_4) gi_U_X9_has (host := "IdleCrimes") (index := 71) (List.mem_of_getElem? (i := 25) rfl) gw_6 gw_74 (n := 2) rfl (by decide +kernel) ⟨rfl, rfl, Nat.le_of_ble_eq_true rfl, Nat.le_of_ble_eq_true rfl⟩ hPD hS [] [0, 1, 2, 3, 4, 5, 6, 7, 8, 9, 10, 11, 12, 13, 14, 15, 16, 17, 18, 19, 20, 21, 22, 23, 24, 25, 26] [0, 1, 2, 3, 4, 5, 6, 7, 8, 9, 10, 11, 12, 13, 14, 15, 16, 17, 18, 19, 20, 21, 22, 23, 24, 25, 26] (wr := (wX6 G h0 a0 f0 A0 ++ (wX1 G h1 a1 f1 A1 ++ (wB G q2 g2 aB2 fB2 AB2)))) (wN := (wX6 G h0 a0 f0 A0 ++ (wX1 G h1 a1 f1 A1 ++ (wB G q2 g2 aB2 fB2 AB2)))) rfl rfl rfl rfl rfl hl.1 (Nat.le_of_ble_eq_true rfl) dX5_walk_63 (fun H locs hPD hS => ?_)
          refine lv_if_eq (tgt := 79) hx hb dX5_walk_66 (by decide) (fun cc1 => ?_) (fun cc1 => ?_)
          · have h := (if_pos cc1).symm.trans h
            refine lv_iinc (v := l3 + 1) (lv' := [(3, .int (l3 + 1)), (5, .int q_4), (4, .ref (g2 1)), (0, .ref h0), (1, .ref h1), (2, .ref q2)]) hx hb dX5_walk_79 hl (k := 5) rfl rfl (by decide) rfl (fun ls hl => ?_)
            refine lv_goto (tgt := 2) hx hb dX5_walk_82 (by decide) ?_
            exact hk2 A0 (l3 + 1) h _ _ _ hPD hS (lv_sub hl [3, 4, 5, 0] rfl)
          · have h := (if_neg cc1).symm.trans h
            refine lv_aload_n hx hb dX5_walk_69 rfl (lv_at hl 2 rfl) ?_
            refine va_get (D := G.1) (ci := 6) (v := .ref (a0 3)) (C := RX6) (T := TX6) (N := 10) hx hb hts inlX6 hown hK hPD.1 0 rfl rfl 3 (by decide) (hts _ gw_273) (fun _ h9 => h9) rfl dX5_walk_70 ?_
            refine lv_iload_n hx hb dX5_walk_73 rfl (lv_at hl 5 rfl) ?_
            refine lv_iload hx hb dX5_walk_74 (lv_at hl 0 rfl) ?_
            obtain ⟨z_5, ez_5, h⟩ := lvl h
            have kc := kt_X9_put l G (a0 3) 8 (A0 3) l3 q_4 (by decide)
            rw [← ez_5] at kc
            clear ez_5
            refine kNV (As := [.ref (a0 3), .int l3, .int q_4]) (rest := []) C0 (kc) gi_U_X9_put (host := "IdleCrimes") (index := 75) (List.mem_of_getElem? (i := 26) rfl) gw_6 gw_19 (n := 3) rfl (by decide +kernel) ⟨rfl, rfl, Nat.le_of_ble_eq_true rfl, Nat.le_of_ble_eq_true rfl⟩ hPD hS [4] [0, 1, 2, 3, 5, 6, 7, 8, 9, 10, 11, 12, 13, 14, 15, 16, 17, 18, 19, 20, 21, 22, 23, 24, 25, 26] [0, 1, 2, 3, 26, 4, 5, 6, 7, 8, 9, 10, 11, 12, 13, 14, 15, 16, 17, 18, 19, 20, 21, 22, 23, 24, 25] (wr := pick (wX6 G h0 a0 f0 A0 ++ (wX1 G h1 a1 f1 A1 ++ (wB G q2 g2 aB2 fB2 AB2))) [0, 1, 2, 3, 5, 6, 7, 8, 9, 10, 11, 12, 13, 14, 15, 16, 17, 18, 19, 20, 21, 22, 23, 24, 25, 26]) (wN := (wX6 G h0 a0 f0 (updA A0 3 z_5) ++ (wX1 G h1 a1 f1 A1 ++ (wB G q2 g2 aB2 fB2 AB2)))) rfl rfl rfl rfl rfl hl.1 (Nat.le_of_ble_eq_true rfl) dX5_walk_76 (fun H locs hPD hS => ?_)
            obtain ⟨A0_6, eA0_6, h⟩ := lvl h
            have hPD : WD G DA (wX6 G h0 a0 f0 A0_6 ++ (wX1 G h1 a1 f1 A1 ++ (wB G q2 g2 aB2 fB2 AB2))) H := by rw [eA0_6]; exact hPD
            clear eA0_6
            refine lv_iinc (v := l3 + 1) (lv' := [(3, .int (l3 + 1)), (5, .int q_4), (4, .ref (g2 1)), (0, .ref h0), (1, .ref h1), (2, .ref q2)]) hx hb dX5_walk_79 hl (k := 5) rfl rfl (by decide) rfl (fun ls hl => ?_)
            refine lv_goto (tgt := 2) hx hb dX5_walk_82 (by decide) ?_
            exact hk2 A0_6 (l3 + 1) h _ _ _ hPD hS (lv_sub hl [3, 4, 5, 0] rfl)
    · refine lv_astore (lv' := [(4, .ref (g2 2)), (0, .ref h0), (1, .ref h1), (2, .ref q2), (3, .int l3)]) hx hb dX5_walk_11 hl (by decide) rfl (fun ls hl => ?_)
      refine lv_aload hx hb dX5_walk_13 (lv_at hl 0 rfl) ?_
      refine lv_ifnull hx hb dX5_walk_15 ?_
      refine lv_aload_n hx hb dX5_walk_18 rfl (lv_at hl 1 rfl) ?_
      refine lv_iload_n hx hb dX5_walk_19 rfl (lv_at hl 4 rfl) ?_
      refine kVI (As := [.int l3]) (rest := []) C0 (kt_X6_isTold l G h0 a0 f0 A0 l3) gi_V_X5_61_X6_isTold (n := 1) rfl (by decide +kernel) rfl ⟨rfl, rfl, Nat.le_of_ble_eq_true rfl, Nat.le_of_ble_eq_true rfl⟩ hPD hS 0 6 rfl rfl rfl [0, 1, 2, 3, 4, 5] [6, 7, 8, 9, 10, 11, 12, 13, 14, 15, 16, 17, 18, 19, 20, 21, 22, 23, 24, 25, 26] [21, 22, 23, 24, 25, 26, 0, 1, 2, 3, 4, 5, 6, 7, 8, 9, 10, 11, 12, 13, 14, 15, 16, 17, 18, 19, 20] (wr := (wX1 G h1 a1 f1 A1 ++ (wB G q2 g2 aB2 fB2 AB2))) (wN := (wX6 G h0 a0 f0 A0 ++ (wX1 G h1 a1 f1 A1 ++ (wB G q2 g2 aB2 fB2 AB2)))) rfl rfl rfl rfl rfl hl.1 (Nat.le_of_ble_eq_true rfl) dX5_walk_20 (fun H locs hPD hS => ?_)
      refine lv_if_eq (tgt := 79) hx hb dX5_walk_23 (by decide) (fun cc1 => ?_) (fun cc1 => ?_)
      · have h := (if_pos cc1).symm.trans h
        refine lv_iinc (v := l3 + 1) (lv' := [(3, .int (l3 + 1)), (4, .ref (g2 2)), (0, .ref h0), (1, .ref h1), (2, .ref q2)]) hx hb dX5_walk_79 hl (k := 4) rfl rfl (by decide) rfl (fun ls hl => ?_)
        refine lv_goto (tgt := 2) hx hb dX5_walk_82 (by decide) ?_
        exact hk2 A0 (l3 + 1) h _ _ _ hPD hS (lv_sub hl [2, 3, 4, 0] rfl)
      · have h := (if_neg cc1).symm.trans h
        refine lv_aload hx hb dX5_walk_26 (lv_at hl 0 rfl) ?_
        refine lv_aload_n hx hb dX5_walk_28 rfl (lv_at hl 1 rfl) ?_
        refine va_get (D := G.1) (ci := 6) (v := .int (f0 8)) (C := RX6) (T := TX6) (N := 10) hx hb hts inlX6 hown hK hPD.1 0 rfl rfl 8 (by decide) (hts _ gw_266) (fun _ h9 => h9) rfl dX5_walk_29 ?_
        obtain ⟨q_4, hq_4, h⟩ := ob2 h
        refine kVI (As := [.int (f0 8)]) (rest := []) C0 (kt_X0_stepAt l G (g2 2) (aB2 2) (fB2 2) (AB2 2) (f0 8) hq_4) gi_V_X5_62_X0_stepAt (n := 1) rfl (by decide +kernel) rfl ⟨rfl, rfl, Nat.le_of_ble_eq_true rfl, Nat.le_of_ble_eq_true rfl⟩ hPD hS 15 0 rfl rfl rfl [15, 16] [0, 1, 2, 3, 4, 5, 6, 7, 8, 9, 10, 11, 12, 13, 14, 17, 18, 19, 20, 21, 22, 23, 24, 25, 26] [0, 1, 2, 3, 4, 5, 6, 7, 8, 9, 10, 11, 12, 13, 14, 25, 26, 15, 16, 17, 18, 19, 20, 21, 22, 23, 24] (wr := pick (wX6 G h0 a0 f0 A0 ++ (wX1 G h1 a1 f1 A1 ++ (wB G q2 g2 aB2 fB2 AB2))) [0, 1, 2, 3, 4, 5, 6, 7, 8, 9, 10, 11, 12, 13, 14, 17, 18, 19, 20, 21, 22, 23, 24, 25, 26]) (wN := (wX6 G h0 a0 f0 A0 ++ (wX1 G h1 a1 f1 A1 ++ (wB G q2 g2 aB2 fB2 AB2)))) rfl rfl rfl rfl rfl hl.1 (Nat.le_of_ble_eq_true rfl) dX5_walk_32 (fun H locs hPD hS => ?_)
        refine lv_istore (lv' := [(5, .int q_4), (4, .ref (g2 2)), (0, .ref h0), (1, .ref h1), (2, .ref q2), (3, .int l3)]) hx hb dX5_walk_35 hl (by decide) rfl (fun ls hl => ?_)
        refine lv_aload_n hx hb dX5_walk_37 rfl (lv_at hl 3 rfl) ?_
        refine lv_iload hx hb dX5_walk_38 (lv_at hl 0 rfl) ?_
        refine kVI (As := [.int q_4]) (rest := []) C0 (kt_X1_isTold l G h1 a1 f1 A1 q_4) gi_V_X5_40_X1_isTold (n := 1) rfl (by decide +kernel) rfl ⟨rfl, rfl, Nat.le_of_ble_eq_true rfl, Nat.le_of_ble_eq_true rfl⟩ hPD hS 6 1 rfl rfl rfl [6, 7, 8, 9] [0, 1, 2, 3, 4, 5, 10, 11, 12, 13, 14, 15, 16, 17, 18, 19, 20, 21, 22, 23, 24, 25, 26] [0, 1, 2, 3, 4, 5, 23, 24, 25, 26, 6, 7, 8, 9, 10, 11, 12, 13, 14, 15, 16, 17, 18, 19, 20, 21, 22] (wr := (wX6 G h0 a0 f0 A0 ++ (wB G q2 g2 aB2 fB2 AB2))) (wN := (wX6 G h0 a0 f0 A0 ++ (wX1 G h1 a1 f1 A1 ++ (wB G q2 g2 aB2 fB2 AB2)))) rfl rfl rfl rfl rfl hl.1 (Nat.le_of_ble_eq_true rfl) dX5_walk_40 (fun H locs hPD hS => ?_)
        refine lv_if_eq (tgt := 79) hx hb dX5_walk_43 (by decide) (fun cc1 => ?_) (fun cc1 => ?_)
        · have h := (if_pos cc1).symm.trans h
          refine lv_iinc (v := l3 + 1) (lv' := [(3, .int (l3 + 1)), (5, .int q_4), (4, .ref (g2 2)), (0, .ref h0), (1, .ref h1), (2, .ref q2)]) hx hb dX5_walk_79 hl (k := 5) rfl rfl (by decide) rfl (fun ls hl => ?_)
          refine lv_goto (tgt := 2) hx hb dX5_walk_82 (by decide) ?_
          exact hk2 A0 (l3 + 1) h _ _ _ hPD hS (lv_sub hl [3, 4, 5, 0] rfl)
        · have h := (if_neg cc1).symm.trans h
          refine lv_aload_n hx hb dX5_walk_46 rfl (lv_at hl 3 rfl) ?_
          refine va_get (D := G.1) (ci := 1) (v := .ref (a1 1)) (C := RX1) (T := TX1) (N := 4) hx hb hts inlX1 hown hK hPD.1 6 rfl rfl 1 (by decide) (hts _ gw_272) (fun _ h9 => h9) rfl dX5_walk_47 ?_
          refine lv_aload_n hx hb dX5_walk_50 rfl (lv_at hl 2 rfl) ?_
          refine va_get (D := G.1) (ci := 6) (v := .ref (a0 3)) (C := RX6) (T := TX6) (N := 10) hx hb hts inlX6 hown hK hPD.1 0 rfl rfl 3 (by decide) (hts _ gw_273) (fun _ h9 => h9) rfl dX5_walk_51 ?_
          refine lv_iload_n hx hb dX5_walk_54 rfl (lv_at hl 5 rfl) ?_
          refine kNI (As := [.ref (a0 3), .int l3]) (rest := [.ref (a1 1)]) C0 (kt_X9_at l G (a0 3) 8 (A0 3) l3 (by decide)) gi_U_X9_at (host := "IdleCrimes") (index := 49) (List.mem_of_getElem? (i := 24) rfl) gw_6 gw_7 (n := 2) rfl (by decide +kernel) ⟨rfl, rfl, Nat.le_of_ble_eq_true rfl, Nat.le_of_ble_eq_true rfl⟩ hPD hS [4] [0, 1, 2, 3, 5, 6, 7, 8, 9, 10, 11, 12, 13, 14, 15, 16, 17, 18, 19, 20, 21, 22, 23, 24, 25, 26] [0, 1, 2, 3, 26, 4, 5, 6, 7, 8, 9, 10, 11, 12, 13, 14, 15, 16, 17, 18, 19, 20, 21, 22, 23, 24, 25] (wr := pick (wX6 G h0 a0 f0 A0 ++ (wX1 G h1 a1 f1 A1 ++ (wB G q2 g2 aB2 fB2 AB2))) [0, 1, 2, 3, 5, 6, 7, 8, 9, 10, 11, 12, 13, 14, 15, 16, 17, 18, 19, 20, 21, 22, 23, 24, 25, 26]) (wN := (wX6 G h0 a0 f0 A0 ++ (wX1 G h1 a1 f1 A1 ++ (wB G q2 g2 aB2 fB2 AB2)))) rfl rfl rfl rfl rfl hl.1 (Nat.le_of_ble_eq_true rfl) dX5_walk_55 (fun H locs hPD hS => ?_)
          refine kNI (As := [.ref (a1 1), .int (f9_at 8 (A0 3) l3)]) (rest := []) C0 (kt_X9_at l G (a1 1) 16 (A1 1) (f9_at 8 (A0 3) l3) (by decide)) gi_U_X9_at (host := "IdleCrimes") (index := 49) (List.mem_of_getElem? (i := 24) rfl) gw_6 gw_7 (n := 2) rfl (by decide +kernel) ⟨rfl, rfl, Nat.le_of_ble_eq_true rfl, Nat.le_of_ble_eq_true rfl⟩ hPD hS [7] [0, 1, 2, 3, 4, 5, 6, 8, 9, 10, 11, 12, 13, 14, 15, 16, 17, 18, 19, 20, 21, 22, 23, 24, 25, 26] [0, 1, 2, 3, 4, 5, 6, 26, 7, 8, 9, 10, 11, 12, 13, 14, 15, 16, 17, 18, 19, 20, 21, 22, 23, 24, 25] (wr := pick (wX6 G h0 a0 f0 A0 ++ (wX1 G h1 a1 f1 A1 ++ (wB G q2 g2 aB2 fB2 AB2))) [0, 1, 2, 3, 4, 5, 6, 8, 9, 10, 11, 12, 13, 14, 15, 16, 17, 18, 19, 20, 21, 22, 23, 24, 25, 26]) (wN := (wX6 G h0 a0 f0 A0 ++ (wX1 G h1 a1 f1 A1 ++ (wB G q2 g2 aB2 fB2 AB2)))) rfl rfl rfl rfl rfl hl.1 (Nat.le_of_ble_eq_true rfl) dX5_walk_58 (fun H locs hPD hS => ?_)
          refine lv_iload hx hb dX5_walk_61 (lv_at hl 0 rfl) ?_
          refine kNI (As := [.int (f9_at 16 (A1 1) (f9_at 8 (A0 3) l3)), .int q_4]) (rest := []) C0 (kt_X9_has l G  (f9_at 16 (A1 1) (f9_at 8 (A0 3) l3)) q_4) gi_U_X9_has (host := "IdleCrimes") (index := 71) (List.mem_of_getElem? (i := 25) rfl) gw_6 gw_74 (n := 2) rfl (by decide +kernel) ⟨rfl, rfl, Nat.le_of_ble_eq_true rfl, Nat.le_of_ble_eq_true rfl⟩ hPD hS [] [0, 1, 2, 3, 4, 5, 6, 7, 8, 9, 10, 11, 12, 13, 14, 15, 16, 17, 18, 19, 20, 21, 22, 23, 24, 25, 26] [0, 1, 2, 3, 4, 5, 6, 7, 8, 9, 10, 11, 12, 13, 14, 15, 16, 17, 18, 19, 20, 21, 22, 23, 24, 25, 26] (wr := (wX6 G h0 a0 f0 A0 ++ (wX1 G h1 a1 f1 A1 ++ (wB G q2 g2 aB2 fB2 AB2)))) (wN := (wX6 G h0 a0 f0 A0 ++ (wX1 G h1 a1 f1 A1 ++ (wB G q2 g2 aB2 fB2 AB2)))) rfl rfl rfl rfl rfl hl.1 (Nat.le_of_ble_eq_true rfl) dX5_walk_63 (fun H locs hPD hS => ?_)
          refine lv_if_eq (tgt := 79) hx hb dX5_walk_66 (by decide) (fun cc1 => ?_) (fun cc1 => ?_)
          · have h := (if_pos cc1).symm.trans h
            refine lv_iinc (v := l3 + 1) (lv' := [(3, .int (l3 + 1)), (5, .int q_4), (4, .ref (g2 2)), (0, .ref h0), (1, .ref h1), (2, .ref q2)]) hx hb dX5_walk_79 hl (k := 5) rfl rfl (by decide) rfl (fun ls hl => ?_)
            refine lv_goto (tgt := 2) hx hb dX5_walk_82 (by decide) ?_
            exact hk2 A0 (l3 + 1) h _ _ _ hPD hS (lv_sub hl [3, 4, 5, 0] rfl)
          · have h := (if_neg cc1).symm.trans h
            refine lv_aload_n hx hb dX5_walk_69 rfl (lv_at hl 2 rfl) ?_
            refine va_get (D := G.1) (ci := 6) (v := .ref (a0 3)) (C := RX6) (T := TX6) (N := 10) hx hb hts inlX6 hown hK hPD.1 0 rfl rfl 3 (by decide) (hts _ gw_273) (fun _ h9 => h9) rfl dX5_walk_70 ?_
            refine lv_iload_n hx hb dX5_walk_73 rfl (lv_at hl 5 rfl) ?_
            refine lv_iload hx hb dX5_walk_74 (lv_at hl 0 rfl) ?_
            obtain ⟨z_5, ez_5, h⟩ := lvl h
            have kc := kt_X9_put l G (a0 3) 8 (A0 3) l3 q_4 (by decide)
            rw [← ez_5] at kc
            clear ez_5
            refine kNV (As := [.ref (a0 3), .int l3, .int q_4]) (rest := []) C0 (kc) gi_U_X9_put (host := "IdleCrimes") (index := 75) (List.mem_of_getElem? (i := 26) rfl) gw_6 gw_19 (n := 3) rfl (by decide +kernel) ⟨rfl, rfl, Nat.le_of_ble_eq_true rfl, Nat.le_of_ble_eq_true rfl⟩ hPD hS [4] [0, 1, 2, 3, 5, 6, 7, 8, 9, 10, 11, 12, 13, 14, 15, 16, 17, 18, 19, 20, 21, 22, 23, 24, 25, 26] [0, 1, 2, 3, 26, 4, 5, 6, 7, 8, 9, 10, 11, 12, 13, 14, 15, 16, 17, 18, 19, 20, 21, 22, 23, 24, 25] (wr := pick (wX6 G h0 a0 f0 A0 ++ (wX1 G h1 a1 f1 A1 ++ (wB G q2 g2 aB2 fB2 AB2))) [0, 1, 2, 3, 5, 6, 7, 8, 9, 10, 11, 12, 13, 14, 15, 16, 17, 18, 19, 20, 21, 22, 23, 24, 25, 26]) (wN := (wX6 G h0 a0 f0 (updA A0 3 z_5) ++ (wX1 G h1 a1 f1 A1 ++ (wB G q2 g2 aB2 fB2 AB2)))) rfl rfl rfl rfl rfl hl.1 (Nat.le_of_ble_eq_true rfl) dX5_walk_76 (fun H locs hPD hS => ?_)
            obtain ⟨A0_6, eA0_6, h⟩ := lvl h
            have hPD : WD G DA (wX6 G h0 a0 f0 A0_6 ++ (wX1 G h1 a1 f1 A1 ++ (wB G q2 g2 aB2 fB2 AB2))) H := by rw [eA0_6]; exact hPD
            clear eA0_6
            refine lv_iinc (v := l3 + 1) (lv' := [(3, .int (l3 + 1)), (5, .int q_4), (4, .ref (g2 2)), (0, .ref h0), (1, .ref h1), (2, .ref q2)]) hx hb dX5_walk_79 hl (k := 5) rfl rfl (by decide) rfl (fun ls hl => ?_)
            refine lv_goto (tgt := 2) hx hb dX5_walk_82 (by decide) ?_
            exact hk2 A0_6 (l3 + 1) h _ _ _ hPD hS (lv_sub hl [3, 4, 5, 0] rfl)
    · refine lv_astore (lv' := [(4, .ref (g2 3)), (0, .ref h0), (1, .ref h1), (2, .ref q2), (3, .int l3)]) hx hb dX5_walk_11 hl (by decide) rfl (fun ls hl => ?_)
      refine lv_aload hx hb dX5_walk_13 (lv_at hl 0 rfl) ?_
      refine lv_ifnull hx hb dX5_walk_15 ?_
      refine lv_aload_n hx hb dX5_walk_18 rfl (lv_at hl 1 rfl) ?_
      refine lv_iload_n hx hb dX5_walk_19 rfl (lv_at hl 4 rfl) ?_
      refine kVI (As := [.int l3]) (rest := []) C0 (kt_X6_isTold l G h0 a0 f0 A0 l3) gi_V_X5_61_X6_isTold (n := 1) rfl (by decide +kernel) rfl ⟨rfl, rfl, Nat.le_of_ble_eq_true rfl, Nat.le_of_ble_eq_true rfl⟩ hPD hS 0 6 rfl rfl rfl [0, 1, 2, 3, 4, 5] [6, 7, 8, 9, 10, 11, 12, 13, 14, 15, 16, 17, 18, 19, 20, 21, 22, 23, 24, 25, 26] [21, 22, 23, 24, 25, 26, 0, 1, 2, 3, 4, 5, 6, 7, 8, 9, 10, 11, 12, 13, 14, 15, 16, 17, 18, 19, 20] (wr := (wX1 G h1 a1 f1 A1 ++ (wB G q2 g2 aB2 fB2 AB2))) (wN := (wX6 G h0 a0 f0 A0 ++ (wX1 G h1 a1 f1 A1 ++ (wB G q2 g2 aB2 fB2 AB2)))) rfl rfl rfl rfl rfl hl.1 (Nat.le_of_ble_eq_true rfl) dX5_walk_20 (fun H locs hPD hS => ?_)
      refine lv_if_eq (tgt := 79) hx hb dX5_walk_23 (by decide) (fun cc1 => ?_) (fun cc1 => ?_)
      · have h := (if_pos cc1).symm.trans h
        refine lv_iinc (v := l3 + 1) (lv' := [(3, .int (l3 + 1)), (4, .ref (g2 3)), (0, .ref h0), (1, .ref h1), (2, .ref q2)]) hx hb dX5_walk_79 hl (k := 4) rfl rfl (by decide) rfl (fun ls hl => ?_)
        refine lv_goto (tgt := 2) hx hb dX5_walk_82 (by decide) ?_
        exact hk2 A0 (l3 + 1) h _ _ _ hPD hS (lv_sub hl [2, 3, 4, 0] rfl)
      · have h := (if_neg cc1).symm.trans h
        refine lv_aload hx hb dX5_walk_26 (lv_at hl 0 rfl) ?_
        refine lv_aload_n hx hb dX5_walk_28 rfl (lv_at hl 1 rfl) ?_
        refine va_get (D := G.1) (ci := 6) (v := .int (f0 8)) (C := RX6) (T := TX6) (N := 10) hx hb hts inlX6 hown hK hPD.1 0 rfl rfl 8 (by decide) (hts _ gw_266) (fun _ h9 => h9) rfl dX5_walk_29 ?_
        obtain ⟨q_4, hq_4, h⟩ := ob2 h
        refine kVI (As := [.int (f0 8)]) (rest := []) C0 (kt_X0_stepAt l G (g2 3) (aB2 3) (fB2 3) (AB2 3) (f0 8) hq_4) gi_V_X5_62_X0_stepAt (n := 1) rfl (by decide +kernel) rfl ⟨rfl, rfl, Nat.le_of_ble_eq_true rfl, Nat.le_of_ble_eq_true rfl⟩ hPD hS 17 0 rfl rfl rfl [17, 18] [0, 1, 2, 3, 4, 5, 6, 7, 8, 9, 10, 11, 12, 13, 14, 15, 16, 19, 20, 21, 22, 23, 24, 25, 26] [0, 1, 2, 3, 4, 5, 6, 7, 8, 9, 10, 11, 12, 13, 14, 15, 16, 25, 26, 17, 18, 19, 20, 21, 22, 23, 24] (wr := pick (wX6 G h0 a0 f0 A0 ++ (wX1 G h1 a1 f1 A1 ++ (wB G q2 g2 aB2 fB2 AB2))) [0, 1, 2, 3, 4, 5, 6, 7, 8, 9, 10, 11, 12, 13, 14, 15, 16, 19, 20, 21, 22, 23, 24, 25, 26]) (wN := (wX6 G h0 a0 f0 A0 ++ (wX1 G h1 a1 f1 A1 ++ (wB G q2 g2 aB2 fB2 AB2)))) rfl rfl rfl rfl rfl hl.1 (Nat.le_of_ble_eq_true rfl) dX5_walk_32 (fun H locs hPD hS => ?_)
        refine lv_istore (lv' := [(5, .int q_4), (4, .ref (g2 3)), (0, .ref h0), (1, .ref h1), (2, .ref q2), (3, .int l3)]) hx hb dX5_walk_35 hl (by decide) rfl (fun ls hl => ?_)
        refine lv_aload_n hx hb dX5_walk_37 rfl (lv_at hl 3 rfl) ?_
        refine lv_iload hx hb dX5_walk_38 (lv_at hl 0 rfl) ?_
        refine kVI (As := [.int q_4]) (rest := []) C0 (kt_X1_isTold l G h1 a1 f1 A1 q_4) gi_V_X5_40_X1_isTold (n := 1) rfl (by decide +kernel) rfl ⟨rfl, rfl, Nat.le_of_ble_eq_true rfl, Nat.le_of_ble_eq_true rfl⟩ hPD hS 6 1 rfl rfl rfl [6, 7, 8, 9] [0, 1, 2, 3, 4, 5, 10, 11, 12, 13, 14, 15, 16, 17, 18, 19, 20, 21, 22, 23, 24, 25, 26] [0, 1, 2, 3, 4, 5, 23, 24, 25, 26, 6, 7, 8, 9, 10, 11, 12, 13, 14, 15, 16, 17, 18, 19, 20, 21, 22] (wr := (wX6 G h0 a0 f0 A0 ++ (wB G q2 g2 aB2 fB2 AB2))) (wN := (wX6 G h0 a0 f0 A0 ++ (wX1 G h1 a1 f1 A1 ++ (wB G q2 g2 aB2 fB2 AB2)))) rfl rfl rfl rfl rfl hl.1 (Nat.le_of_ble_eq_true rfl) dX5_walk_40 (fun H locs hPD hS => ?_)
        refine lv_if_eq (tgt := 79) hx hb dX5_walk_43 (by decide) (fun cc1 => ?_) (fun cc1 => ?_)
        · have h := (if_pos cc1).symm.trans h
          refine lv_iinc (v := l3 + 1) (lv' := [(3, .int (l3 + 1)), (5, .int q_4), (4, .ref (g2 3)), (0, .ref h0), (1, .ref h1), (2, .ref q2)]) hx hb dX5_walk_79 hl (k := 5) rfl rfl (by decide) rfl (fun ls hl => ?_)
          refine lv_goto (tgt := 2) hx hb dX5_walk_82 (by decide) ?_
          exact hk2 A0 (l3 + 1) h _ _ _ hPD hS (lv_sub hl [3, 4, 5, 0] rfl)
        · have h := (if_neg cc1).symm.trans h
          refine lv_aload_n hx hb dX5_walk_46 rfl (lv_at hl 3 rfl) ?_
          refine va_get (D := G.1) (ci := 1) (v := .ref (a1 1)) (C := RX1) (T := TX1) (N := 4) hx hb hts inlX1 hown hK hPD.1 6 rfl rfl 1 (by decide) (hts _ gw_272) (fun _ h9 => h9) rfl dX5_walk_47 ?_
          refine lv_aload_n hx hb dX5_walk_50 rfl (lv_at hl 2 rfl) ?_
          refine va_get (D := G.1) (ci := 6) (v := .ref (a0 3)) (C := RX6) (T := TX6) (N := 10) hx hb hts inlX6 hown hK hPD.1 0 rfl rfl 3 (by decide) (hts _ gw_273) (fun _ h9 => h9) rfl dX5_walk_51 ?_
          refine lv_iload_n hx hb dX5_walk_54 rfl (lv_at hl 5 rfl) ?_
          refine kNI (As := [.ref (a0 3), .int l3]) (rest := [.ref (a1 1)]) C0 (kt_X9_at l G (a0 3) 8 (A0 3) l3 (by decide)) gi_U_X9_at (host := "IdleCrimes") (index := 49) (List.mem_of_getElem? (i := 24) rfl) gw_6 gw_7 (n := 2) rfl (by decide +kernel) ⟨rfl, rfl, Nat.le_of_ble_eq_true rfl, Nat.le_of_ble_eq_true rfl⟩ hPD hS [4] [0, 1, 2, 3, 5, 6, 7, 8, 9, 10, 11, 12, 13, 14, 15, 16, 17, 18, 19, 20, 21, 22, 23, 24, 25, 26] [0, 1, 2, 3, 26, 4, 5, 6, 7, 8, 9, 10, 11, 12, 13, 14, 15, 16, 17, 18, 19, 20, 21, 22, 23, 24, 25] (wr := pick (wX6 G h0 a0 f0 A0 ++ (wX1 G h1 a1 f1 A1 ++ (wB G q2 g2 aB2 fB2 AB2))) [0, 1, 2, 3, 5, 6, 7, 8, 9, 10, 11, 12, 13, 14, 15, 16, 17, 18, 19, 20, 21, 22, 23, 24, 25, 26]) (wN := (wX6 G h0 a0 f0 A0 ++ (wX1 G h1 a1 f1 A1 ++ (wB G q2 g2 aB2 fB2 AB2)))) rfl rfl rfl rfl rfl hl.1 (Nat.le_of_ble_eq_true rfl) dX5_walk_55 (fun H locs hPD hS => ?_)
          refine kNI (As := [.ref (a1 1), .int (f9_at 8 (A0 3) l3)]) (rest := []) C0 (kt_X9_at l G (a1 1) 16 (A1 1) (f9_at 8 (A0 3) l3) (by decide)) gi_U_X9_at (host := "IdleCrimes") (index := 49) (List.mem_of_getElem? (i := 24) rfl) gw_6 gw_7 (n := 2) rfl (by decide +kernel) ⟨rfl, rfl, Nat.le_of_ble_eq_true rfl, Nat.le_of_ble_eq_true rfl⟩ hPD hS [7] [0, 1, 2, 3, 4, 5, 6, 8, 9, 10, 11, 12, 13, 14, 15, 16, 17, 18, 19, 20, 21, 22, 23, 24, 25, 26] [0, 1, 2, 3, 4, 5, 6, 26, 7, 8, 9, 10, 11, 12, 13, 14, 15, 16, 17, 18, 19, 20, 21, 22, 23, 24, 25] (wr := pick (wX6 G h0 a0 f0 A0 ++ (wX1 G h1 a1 f1 A1 ++ (wB G q2 g2 aB2 fB2 AB2))) [0, 1, 2, 3, 4, 5, 6, 8, 9, 10, 11, 12, 13, 14, 15, 16, 17, 18, 19, 20, 21, 22, 23, 24, 25, 26]) (wN := (wX6 G h0 a0 f0 A0 ++ (wX1 G h1 a1 f1 A1 ++ (wB G q2 g2 aB2 fB2 AB2)))) rfl rfl rfl rfl rfl hl.1 (Nat.le_of_ble_eq_true rfl) dX5_walk_58 (fun H locs hPD hS => ?_)
          refine lv_iload hx hb dX5_walk_61 (lv_at hl 0 rfl) ?_
          refine kNI (As := [.int (f9_at 16 (A1 1) (f9_at 8 (A0 3) l3)), .int q_4]) (rest := []) C0 (kt_X9_has l G  (f9_at 16 (A1 1) (f9_at 8 (A0 3) l3)) q_4) gi_U_X9_has (host := "IdleCrimes") (index := 71) (List.mem_of_getElem? (i := 25) rfl) gw_6 gw_74 (n := 2) rfl (by decide +kernel) ⟨rfl, rfl, Nat.le_of_ble_eq_true rfl, Nat.le_of_ble_eq_true rfl⟩ hPD hS [] [0, 1, 2, 3, 4, 5, 6, 7, 8, 9, 10, 11, 12, 13, 14, 15, 16, 17, 18, 19, 20, 21, 22, 23, 24, 25, 26] [0, 1, 2, 3, 4, 5, 6, 7, 8, 9, 10, 11, 12, 13, 14, 15, 16, 17, 18, 19, 20, 21, 22, 23, 24, 25, 26] (wr := (wX6 G h0 a0 f0 A0 ++ (wX1 G h1 a1 f1 A1 ++ (wB G q2 g2 aB2 fB2 AB2)))) (wN := (wX6 G h0 a0 f0 A0 ++ (wX1 G h1 a1 f1 A1 ++ (wB G q2 g2 aB2 fB2 AB2)))) rfl rfl rfl rfl rfl hl.1 (Nat.le_of_ble_eq_true rfl) dX5_walk_63 (fun H locs hPD hS => ?_)
          refine lv_if_eq (tgt := 79) hx hb dX5_walk_66 (by decide) (fun cc1 => ?_) (fun cc1 => ?_)
          · have h := (if_pos cc1).symm.trans h
            refine lv_iinc (v := l3 + 1) (lv' := [(3, .int (l3 + 1)), (5, .int q_4), (4, .ref (g2 3)), (0, .ref h0), (1, .ref h1), (2, .ref q2)]) hx hb dX5_walk_79 hl (k := 5) rfl rfl (by decide) rfl (fun ls hl => ?_)
            refine lv_goto (tgt := 2) hx hb dX5_walk_82 (by decide) ?_
            exact hk2 A0 (l3 + 1) h _ _ _ hPD hS (lv_sub hl [3, 4, 5, 0] rfl)
          · have h := (if_neg cc1).symm.trans h
            refine lv_aload_n hx hb dX5_walk_69 rfl (lv_at hl 2 rfl) ?_
            refine va_get (D := G.1) (ci := 6) (v := .ref (a0 3)) (C := RX6) (T := TX6) (N := 10) hx hb hts inlX6 hown hK hPD.1 0 rfl rfl 3 (by decide) (hts _ gw_273) (fun _ h9 => h9) rfl dX5_walk_70 ?_
            refine lv_iload_n hx hb dX5_walk_73 rfl (lv_at hl 5 rfl) ?_
            refine lv_iload hx hb dX5_walk_74 (lv_at hl 0 rfl) ?_
            obtain ⟨z_5, ez_5, h⟩ := lvl h
            have kc := kt_X9_put l G (a0 3) 8 (A0 3) l3 q_4 (by decide)
            rw [← ez_5] at kc
            clear ez_5
            refine kNV (As := [.ref (a0 3), .int l3, .int q_4]) (rest := []) C0 (kc) gi_U_X9_put (host := "IdleCrimes") (index := 75) (List.mem_of_getElem? (i := 26) rfl) gw_6 gw_19 (n := 3) rfl (by decide +kernel) ⟨rfl, rfl, Nat.le_of_ble_eq_true rfl, Nat.le_of_ble_eq_true rfl⟩ hPD hS [4] [0, 1, 2, 3, 5, 6, 7, 8, 9, 10, 11, 12, 13, 14, 15, 16, 17, 18, 19, 20, 21, 22, 23, 24, 25, 26] [0, 1, 2, 3, 26, 4, 5, 6, 7, 8, 9, 10, 11, 12, 13, 14, 15, 16, 17, 18, 19, 20, 21, 22, 23, 24, 25] (wr := pick (wX6 G h0 a0 f0 A0 ++ (wX1 G h1 a1 f1 A1 ++ (wB G q2 g2 aB2 fB2 AB2))) [0, 1, 2, 3, 5, 6, 7, 8, 9, 10, 11, 12, 13, 14, 15, 16, 17, 18, 19, 20, 21, 22, 23, 24, 25, 26]) (wN := (wX6 G h0 a0 f0 (updA A0 3 z_5) ++ (wX1 G h1 a1 f1 A1 ++ (wB G q2 g2 aB2 fB2 AB2)))) rfl rfl rfl rfl rfl hl.1 (Nat.le_of_ble_eq_true rfl) dX5_walk_76 (fun H locs hPD hS => ?_)
            obtain ⟨A0_6, eA0_6, h⟩ := lvl h
            have hPD : WD G DA (wX6 G h0 a0 f0 A0_6 ++ (wX1 G h1 a1 f1 A1 ++ (wB G q2 g2 aB2 fB2 AB2))) H := by rw [eA0_6]; exact hPD
            clear eA0_6
            refine lv_iinc (v := l3 + 1) (lv' := [(3, .int (l3 + 1)), (5, .int q_4), (4, .ref (g2 3)), (0, .ref h0), (1, .ref h1), (2, .ref q2)]) hx hb dX5_walk_79 hl (k := 5) rfl rfl (by decide) rfl (fun ls hl => ?_)
            refine lv_goto (tgt := 2) hx hb dX5_walk_82 (by decide) ?_
            exact hk2 A0_6 (l3 + 1) h _ _ _ hPD hS (lv_sub hl [3, 4, 5, 0] rfl)
    · refine lv_astore (lv' := [(4, .ref (g2 4)), (0, .ref h0), (1, .ref h1), (2, .ref q2), (3, .int l3)]) hx hb dX5_walk_11 hl (by decide) rfl (fun ls hl => ?_)
      refine lv_aload hx hb dX5_walk_13 (lv_at hl 0 rfl) ?_
      refine lv_ifnull hx hb dX5_walk_15 ?_
      refine lv_aload_n hx hb dX5_walk_18 rfl (lv_at hl 1 rfl) ?_
      refine lv_iload_n hx hb dX5_walk_19 rfl (lv_at hl 4 rfl) ?_
      refine kVI (As := [.int l3]) (rest := []) C0 (kt_X6_isTold l G h0 a0 f0 A0 l3) gi_V_X5_61_X6_isTold (n := 1) rfl (by decide +kernel) rfl ⟨rfl, rfl, Nat.le_of_ble_eq_true rfl, Nat.le_of_ble_eq_true rfl⟩ hPD hS 0 6 rfl rfl rfl [0, 1, 2, 3, 4, 5] [6, 7, 8, 9, 10, 11, 12, 13, 14, 15, 16, 17, 18, 19, 20, 21, 22, 23, 24, 25, 26] [21, 22, 23, 24, 25, 26, 0, 1, 2, 3, 4, 5, 6, 7, 8, 9, 10, 11, 12, 13, 14, 15, 16, 17, 18, 19, 20] (wr := (wX1 G h1 a1 f1 A1 ++ (wB G q2 g2 aB2 fB2 AB2))) (wN := (wX6 G h0 a0 f0 A0 ++ (wX1 G h1 a1 f1 A1 ++ (wB G q2 g2 aB2 fB2 AB2)))) rfl rfl rfl rfl rfl hl.1 (Nat.le_of_ble_eq_true rfl) dX5_walk_20 (fun H locs hPD hS => ?_)
      refine lv_if_eq (tgt := 79) hx hb dX5_walk_23 (by decide) (fun cc1 => ?_) (fun cc1 => ?_)
      · have h := (if_pos cc1).symm.trans h
        refine lv_iinc (v := l3 + 1) (lv' := [(3, .int (l3 + 1)), (4, .ref (g2 4)), (0, .ref h0), (1, .ref h1), (2, .ref q2)]) hx hb dX5_walk_79 hl (k := 4) rfl rfl (by decide) rfl (fun ls hl => ?_)
        refine lv_goto (tgt := 2) hx hb dX5_walk_82 (by decide) ?_
        exact hk2 A0 (l3 + 1) h _ _ _ hPD hS (lv_sub hl [2, 3, 4, 0] rfl)
      · have h := (if_neg cc1).symm.trans h
        refine lv_aload hx hb dX5_walk_26 (lv_at hl 0 rfl) ?_
        refine lv_aload_n hx hb dX5_walk_28 rfl (lv_at hl 1 rfl) ?_
        refine va_get (D := G.1) (ci := 6) (v := .int (f0 8)) (C := RX6) (T := TX6) (N := 10) hx hb hts inlX6 hown hK hPD.1 0 rfl rfl 8 (by decide) (hts _ gw_266) (fun _ h9 => h9) rfl dX5_walk_29 ?_
        obtain ⟨q_4, hq_4, h⟩ := ob2 h
        refine kVI (As := [.int (f0 8)]) (rest := []) C0 (kt_X0_stepAt l G (g2 4) (aB2 4) (fB2 4) (AB2 4) (f0 8) hq_4) gi_V_X5_62_X0_stepAt (n := 1) rfl (by decide +kernel) rfl ⟨rfl, rfl, Nat.le_of_ble_eq_true rfl, Nat.le_of_ble_eq_true rfl⟩ hPD hS 19 0 rfl rfl rfl [19, 20] [0, 1, 2, 3, 4, 5, 6, 7, 8, 9, 10, 11, 12, 13, 14, 15, 16, 17, 18, 21, 22, 23, 24, 25, 26] [0, 1, 2, 3, 4, 5, 6, 7, 8, 9, 10, 11, 12, 13, 14, 15, 16, 17, 18, 25, 26, 19, 20, 21, 22, 23, 24] (wr := pick (wX6 G h0 a0 f0 A0 ++ (wX1 G h1 a1 f1 A1 ++ (wB G q2 g2 aB2 fB2 AB2))) [0, 1, 2, 3, 4, 5, 6, 7, 8, 9, 10, 11, 12, 13, 14, 15, 16, 17, 18, 21, 22, 23, 24, 25, 26]) (wN := (wX6 G h0 a0 f0 A0 ++ (wX1 G h1 a1 f1 A1 ++ (wB G q2 g2 aB2 fB2 AB2)))) rfl rfl rfl rfl rfl hl.1 (Nat.le_of_ble_eq_true rfl) dX5_walk_32 (fun H locs hPD hS => ?_)
        refine lv_istore (lv' := [(5, .int q_4), (4, .ref (g2 4)), (0, .ref h0), (1, .ref h1), (2, .ref q2), (3, .int l3)]) hx hb dX5_walk_35 hl (by decide) rfl (fun ls hl => ?_)
        refine lv_aload_n hx hb dX5_walk_37 rfl (lv_at hl 3 rfl) ?_
        refine lv_iload hx hb dX5_walk_38 (lv_at hl 0 rfl) ?_
        refine kVI (As := [.int q_4]) (rest := []) C0 (kt_X1_isTold l G h1 a1 f1 A1 q_4) gi_V_X5_40_X1_isTold (n := 1) rfl (by decide +kernel) rfl ⟨rfl, rfl, Nat.le_of_ble_eq_true rfl, Nat.le_of_ble_eq_true rfl⟩ hPD hS 6 1 rfl rfl rfl [6, 7, 8, 9] [0, 1, 2, 3, 4, 5, 10, 11, 12, 13, 14, 15, 16, 17, 18, 19, 20, 21, 22, 23, 24, 25, 26] [0, 1, 2, 3, 4, 5, 23, 24, 25, 26, 6, 7, 8, 9, 10, 11, 12, 13, 14, 15, 16, 17, 18, 19, 20, 21, 22] (wr := (wX6 G h0 a0 f0 A0 ++ (wB G q2 g2 aB2 fB2 AB2))) (wN := (wX6 G h0 a0 f0 A0 ++ (wX1 G h1 a1 f1 A1 ++ (wB G q2 g2 aB2 fB2 AB2)))) rfl rfl rfl rfl rfl hl.1 (Nat.le_of_ble_eq_true rfl) dX5_walk_40 (fun H locs hPD hS => ?_)
        refine lv_if_eq (tgt := 79) hx hb dX5_walk_43 (by decide) (fun cc1 => ?_) (fun cc1 => ?_)
        · have h := (if_pos cc1).symm.trans h
          refine lv_iinc (v := l3 + 1) (lv' := [(3, .int (l3 + 1)), (5, .int q_4), (4, .ref (g2 4)), (0, .ref h0), (1, .ref h1), (2, .ref q2)]) hx hb dX5_walk_79 hl (k := 5) rfl rfl (by decide) rfl (fun ls hl => ?_)
          refine lv_goto (tgt := 2) hx hb dX5_walk_82 (by decide) ?_
          exact hk2 A0 (l3 + 1) h _ _ _ hPD hS (lv_sub hl [3, 4, 5, 0] rfl)
        · have h := (if_neg cc1).symm.trans h
          refine lv_aload_n hx hb dX5_walk_46 rfl (lv_at hl 3 rfl) ?_
          refine va_get (D := G.1) (ci := 1) (v := .ref (a1 1)) (C := RX1) (T := TX1) (N := 4) hx hb hts inlX1 hown hK hPD.1 6 rfl rfl 1 (by decide) (hts _ gw_272) (fun _ h9 => h9) rfl dX5_walk_47 ?_
          refine lv_aload_n hx hb dX5_walk_50 rfl (lv_at hl 2 rfl) ?_
          refine va_get (D := G.1) (ci := 6) (v := .ref (a0 3)) (C := RX6) (T := TX6) (N := 10) hx hb hts inlX6 hown hK hPD.1 0 rfl rfl 3 (by decide) (hts _ gw_273) (fun _ h9 => h9) rfl dX5_walk_51 ?_
          refine lv_iload_n hx hb dX5_walk_54 rfl (lv_at hl 5 rfl) ?_
          refine kNI (As := [.ref (a0 3), .int l3]) (rest := [.ref (a1 1)]) C0 (kt_X9_at l G (a0 3) 8 (A0 3) l3 (by decide)) gi_U_X9_at (host := "IdleCrimes") (index := 49) (List.mem_of_getElem? (i := 24) rfl) gw_6 gw_7 (n := 2) rfl (by decide +kernel) ⟨rfl, rfl, Nat.le_of_ble_eq_true rfl, Nat.le_of_ble_eq_true rfl⟩ hPD hS [4] [0, 1, 2, 3, 5, 6, 7, 8, 9, 10, 11, 12, 13, 14, 15, 16, 17, 18, 19, 20, 21, 22, 23, 24, 25, 26] [0, 1, 2, 3, 26, 4, 5, 6, 7, 8, 9, 10, 11, 12, 13, 14, 15, 16, 17, 18, 19, 20, 21, 22, 23, 24, 25] (wr := pick (wX6 G h0 a0 f0 A0 ++ (wX1 G h1 a1 f1 A1 ++ (wB G q2 g2 aB2 fB2 AB2))) [0, 1, 2, 3, 5, 6, 7, 8, 9, 10, 11, 12, 13, 14, 15, 16, 17, 18, 19, 20, 21, 22, 23, 24, 25, 26]) (wN := (wX6 G h0 a0 f0 A0 ++ (wX1 G h1 a1 f1 A1 ++ (wB G q2 g2 aB2 fB2 AB2)))) rfl rfl rfl rfl rfl hl.1 (Nat.le_of_ble_eq_true rfl) dX5_walk_55 (fun H locs hPD hS => ?_)
          refine kNI (As := [.ref (a1 1), .int (f9_at 8 (A0 3) l3)]) (rest := []) C0 (kt_X9_at l G (a1 1) 16 (A1 1) (f9_at 8 (A0 3) l3) (by decide)) gi_U_X9_at (host := "IdleCrimes") (index := 49) (List.mem_of_getElem? (i := 24) rfl) gw_6 gw_7 (n := 2) rfl (by decide +kernel) ⟨rfl, rfl, Nat.le_of_ble_eq_true rfl, Nat.le_of_ble_eq_true rfl⟩ hPD hS [7] [0, 1, 2, 3, 4, 5, 6, 8, 9, 10, 11, 12, 13, 14, 15, 16, 17, 18, 19, 20, 21, 22, 23, 24, 25, 26] [0, 1, 2, 3, 4, 5, 6, 26, 7, 8, 9, 10, 11, 12, 13, 14, 15, 16, 17, 18, 19, 20, 21, 22, 23, 24, 25] (wr := pick (wX6 G h0 a0 f0 A0 ++ (wX1 G h1 a1 f1 A1 ++ (wB G q2 g2 aB2 fB2 AB2))) [0, 1, 2, 3, 4, 5, 6, 8, 9, 10, 11, 12, 13, 14, 15, 16, 17, 18, 19, 20, 21, 22, 23, 24, 25, 26]) (wN := (wX6 G h0 a0 f0 A0 ++ (wX1 G h1 a1 f1 A1 ++ (wB G q2 g2 aB2 fB2 AB2)))) rfl rfl rfl rfl rfl hl.1 (Nat.le_of_ble_eq_true rfl) dX5_walk_58 (fun H locs hPD hS => ?_)
          refine lv_iload hx hb dX5_walk_61 (lv_at hl 0 rfl) ?_
          refine kNI (As := [.int (f9_at 16 (A1 1) (f9_at 8 (A0 3) l3)), .int q_4]) (rest := []) C0 (kt_X9_has l G  (f9_at 16 (A1 1) (f9_at 8 (A0 3) l3)) q_4) gi_U_X9_has (host := "IdleCrimes") (index := 71) (List.mem_of_getElem? (i := 25) rfl) gw_6 gw_74 (n := 2) rfl (by decide +kernel) ⟨rfl, rfl, Nat.le_of_ble_eq_true rfl, Nat.le_of_ble_eq_true rfl⟩ hPD hS [] [0, 1, 2, 3, 4, 5, 6, 7, 8, 9, 10, 11, 12, 13, 14, 15, 16, 17, 18, 19, 20, 21, 22, 23, 24, 25, 26] [0, 1, 2, 3, 4, 5, 6, 7, 8, 9, 10, 11, 12, 13, 14, 15, 16, 17, 18, 19, 20, 21, 22, 23, 24, 25, 26] (wr := (wX6 G h0 a0 f0 A0 ++ (wX1 G h1 a1 f1 A1 ++ (wB G q2 g2 aB2 fB2 AB2)))) (wN := (wX6 G h0 a0 f0 A0 ++ (wX1 G h1 a1 f1 A1 ++ (wB G q2 g2 aB2 fB2 AB2)))) rfl rfl rfl rfl rfl hl.1 (Nat.le_of_ble_eq_true rfl) dX5_walk_63 (fun H locs hPD hS => ?_)
          refine lv_if_eq (tgt := 79) hx hb dX5_walk_66 (by decide) (fun cc1 => ?_) (fun cc1 => ?_)
          · have h := (if_pos cc1).symm.trans h
            refine lv_iinc (v := l3 + 1) (lv' := [(3, .int (l3 + 1)), (5, .int q_4), (4, .ref (g2 4)), (0, .ref h0), (1, .ref h1), (2, .ref q2)]) hx hb dX5_walk_79 hl (k := 5) rfl rfl (by decide) rfl (fun ls hl => ?_)
            refine lv_goto (tgt := 2) hx hb dX5_walk_82 (by decide) ?_
            exact hk2 A0 (l3 + 1) h _ _ _ hPD hS (lv_sub hl [3, 4, 5, 0] rfl)
          · have h := (if_neg cc1).symm.trans h
            refine lv_aload_n hx hb dX5_walk_69 rfl (lv_at hl 2 rfl) ?_
            refine va_get (D := G.1) (ci := 6) (v := .ref (a0 3)) (C := RX6) (T := TX6) (N := 10) hx hb hts inlX6 hown hK hPD.1 0 rfl rfl 3 (by decide) (hts _ gw_273) (fun _ h9 => h9) rfl dX5_walk_70 ?_
            refine lv_iload_n hx hb dX5_walk_73 rfl (lv_at hl 5 rfl) ?_
            refine lv_iload hx hb dX5_walk_74 (lv_at hl 0 rfl) ?_
            obtain ⟨z_5, ez_5, h⟩ := lvl h
            have kc := kt_X9_put l G (a0 3) 8 (A0 3) l3 q_4 (by decide)
            rw [← ez_5] at kc
            clear ez_5
            refine kNV (As := [.ref (a0 3), .int l3, .int q_4]) (rest := []) C0 (kc) gi_U_X9_put (host := "IdleCrimes") (index := 75) (List.mem_of_getElem? (i := 26) rfl) gw_6 gw_19 (n := 3) rfl (by decide +kernel) ⟨rfl, rfl, Nat.le_of_ble_eq_true rfl, Nat.le_of_ble_eq_true rfl⟩ hPD hS [4] [0, 1, 2, 3, 5, 6, 7, 8, 9, 10, 11, 12, 13, 14, 15, 16, 17, 18, 19, 20, 21, 22, 23, 24, 25, 26] [0, 1, 2, 3, 26, 4, 5, 6, 7, 8, 9, 10, 11, 12, 13, 14, 15, 16, 17, 18, 19, 20, 21, 22, 23, 24, 25] (wr := pick (wX6 G h0 a0 f0 A0 ++ (wX1 G h1 a1 f1 A1 ++ (wB G q2 g2 aB2 fB2 AB2))) [0, 1, 2, 3, 5, 6, 7, 8, 9, 10, 11, 12, 13, 14, 15, 16, 17, 18, 19, 20, 21, 22, 23, 24, 25, 26]) (wN := (wX6 G h0 a0 f0 (updA A0 3 z_5) ++ (wX1 G h1 a1 f1 A1 ++ (wB G q2 g2 aB2 fB2 AB2)))) rfl rfl rfl rfl rfl hl.1 (Nat.le_of_ble_eq_true rfl) dX5_walk_76 (fun H locs hPD hS => ?_)
            obtain ⟨A0_6, eA0_6, h⟩ := lvl h
            have hPD : WD G DA (wX6 G h0 a0 f0 A0_6 ++ (wX1 G h1 a1 f1 A1 ++ (wB G q2 g2 aB2 fB2 AB2))) H := by rw [eA0_6]; exact hPD
            clear eA0_6
            refine lv_iinc (v := l3 + 1) (lv' := [(3, .int (l3 + 1)), (5, .int q_4), (4, .ref (g2 4)), (0, .ref h0), (1, .ref h1), (2, .ref q2)]) hx hb dX5_walk_79 hl (k := 5) rfl rfl (by decide) rfl (fun ls hl => ?_)
            refine lv_goto (tgt := 2) hx hb dX5_walk_82 (by decide) ?_
            exact hk2 A0_6 (l3 + 1) h _ _ _ hPD hS (lv_sub hl [3, 4, 5, 0] rfl)
    · refine lv_astore (lv' := [(4, .ref (g2 5)), (0, .ref h0), (1, .ref h1), (2, .ref q2), (3, .int l3)]) hx hb dX5_walk_11 hl (by decide) rfl (fun ls hl => ?_)
      refine lv_aload hx hb dX5_walk_13 (lv_at hl 0 rfl) ?_
      refine lv_ifnull hx hb dX5_walk_15 ?_
      refine lv_aload_n hx hb dX5_walk_18 rfl (lv_at hl 1 rfl) ?_
      refine lv_iload_n hx hb dX5_walk_19 rfl (lv_at hl 4 rfl) ?_
      refine kVI (As := [.int l3]) (rest := []) C0 (kt_X6_isTold l G h0 a0 f0 A0 l3) gi_V_X5_61_X6_isTold (n := 1) rfl (by decide +kernel) rfl ⟨rfl, rfl, Nat.le_of_ble_eq_true rfl, Nat.le_of_ble_eq_true rfl⟩ hPD hS 0 6 rfl rfl rfl [0, 1, 2, 3, 4, 5] [6, 7, 8, 9, 10, 11, 12, 13, 14, 15, 16, 17, 18, 19, 20, 21, 22, 23, 24, 25, 26] [21, 22, 23, 24, 25, 26, 0, 1, 2, 3, 4, 5, 6, 7, 8, 9, 10, 11, 12, 13, 14, 15, 16, 17, 18, 19, 20] (wr := (wX1 G h1 a1 f1 A1 ++ (wB G q2 g2 aB2 fB2 AB2))) (wN := (wX6 G h0 a0 f0 A0 ++ (wX1 G h1 a1 f1 A1 ++ (wB G q2 g2 aB2 fB2 AB2)))) rfl rfl rfl rfl rfl hl.1 (Nat.le_of_ble_eq_true rfl) dX5_walk_20 (fun H locs hPD hS => ?_)
      refine lv_if_eq (tgt := 79) hx hb dX5_walk_23 (by decide) (fun cc1 => ?_) (fun cc1 => ?_)
      · have h := (if_pos cc1).symm.trans h
        refine lv_iinc (v := l3 + 1) (lv' := [(3, .int (l3 + 1)), (4, .ref (g2 5)), (0, .ref h0), (1, .ref h1), (2, .ref q2)]) hx hb dX5_walk_79 hl (k := 4) rfl rfl (by decide) rfl (fun ls hl => ?_)
        refine lv_goto (tgt := 2) hx hb dX5_walk_82 (by decide) ?_
        exact hk2 A0 (l3 + 1) h _ _ _ hPD hS (lv_sub hl [2, 3, 4, 0] rfl)
      · have h := (if_neg cc1).symm.trans h
        refine lv_aload hx hb dX5_walk_26 (lv_at hl 0 rfl) ?_
        refine lv_aload_n hx hb dX5_walk_28 rfl (lv_at hl 1 rfl) ?_
        refine va_get (D := G.1) (ci := 6) (v := .int (f0 8)) (C := RX6) (T := TX6) (N := 10) hx hb hts inlX6 hown hK hPD.1 0 rfl rfl 8 (by decide) (hts _ gw_266) (fun _ h9 => h9) rfl dX5_walk_29 ?_
        obtain ⟨q_4, hq_4, h⟩ := ob2 h
        refine kVI (As := [.int (f0 8)]) (rest := []) C0 (kt_X0_stepAt l G (g2 5) (aB2 5) (fB2 5) (AB2 5) (f0 8) hq_4) gi_V_X5_62_X0_stepAt (n := 1) rfl (by decide +kernel) rfl ⟨rfl, rfl, Nat.le_of_ble_eq_true rfl, Nat.le_of_ble_eq_true rfl⟩ hPD hS 21 0 rfl rfl rfl [21, 22] [0, 1, 2, 3, 4, 5, 6, 7, 8, 9, 10, 11, 12, 13, 14, 15, 16, 17, 18, 19, 20, 23, 24, 25, 26] [0, 1, 2, 3, 4, 5, 6, 7, 8, 9, 10, 11, 12, 13, 14, 15, 16, 17, 18, 19, 20, 25, 26, 21, 22, 23, 24] (wr := pick (wX6 G h0 a0 f0 A0 ++ (wX1 G h1 a1 f1 A1 ++ (wB G q2 g2 aB2 fB2 AB2))) [0, 1, 2, 3, 4, 5, 6, 7, 8, 9, 10, 11, 12, 13, 14, 15, 16, 17, 18, 19, 20, 23, 24, 25, 26]) (wN := (wX6 G h0 a0 f0 A0 ++ (wX1 G h1 a1 f1 A1 ++ (wB G q2 g2 aB2 fB2 AB2)))) rfl rfl rfl rfl rfl hl.1 (Nat.le_of_ble_eq_true rfl) dX5_walk_32 (fun H locs hPD hS => ?_)
        refine lv_istore (lv' := [(5, .int q_4), (4, .ref (g2 5)), (0, .ref h0), (1, .ref h1), (2, .ref q2), (3, .int l3)]) hx hb dX5_walk_35 hl (by decide) rfl (fun ls hl => ?_)
        refine lv_aload_n hx hb dX5_walk_37 rfl (lv_at hl 3 rfl) ?_
        refine lv_iload hx hb dX5_walk_38 (lv_at hl 0 rfl) ?_
        refine kVI (As := [.int q_4]) (rest := []) C0 (kt_X1_isTold l G h1 a1 f1 A1 q_4) gi_V_X5_40_X1_isTold (n := 1) rfl (by decide +kernel) rfl ⟨rfl, rfl, Nat.le_of_ble_eq_true rfl, Nat.le_of_ble_eq_true rfl⟩ hPD hS 6 1 rfl rfl rfl [6, 7, 8, 9] [0, 1, 2, 3, 4, 5, 10, 11, 12, 13, 14, 15, 16, 17, 18, 19, 20, 21, 22, 23, 24, 25, 26] [0, 1, 2, 3, 4, 5, 23, 24, 25, 26, 6, 7, 8, 9, 10, 11, 12, 13, 14, 15, 16, 17, 18, 19, 20, 21, 22] (wr := (wX6 G h0 a0 f0 A0 ++ (wB G q2 g2 aB2 fB2 AB2))) (wN := (wX6 G h0 a0 f0 A0 ++ (wX1 G h1 a1 f1 A1 ++ (wB G q2 g2 aB2 fB2 AB2)))) rfl rfl rfl rfl rfl hl.1 (Nat.le_of_ble_eq_true rfl) dX5_walk_40 (fun H locs hPD hS => ?_)
        refine lv_if_eq (tgt := 79) hx hb dX5_walk_43 (by decide) (fun cc1 => ?_) (fun cc1 => ?_)
        · have h := (if_pos cc1).symm.trans h
          refine lv_iinc (v := l3 + 1) (lv' := [(3, .int (l3 + 1)), (5, .int q_4), (4, .ref (g2 5)), (0, .ref h0), (1, .ref h1), (2, .ref q2)]) hx hb dX5_walk_79 hl (k := 5) rfl rfl (by decide) rfl (fun ls hl => ?_)
          refine lv_goto (tgt := 2) hx hb dX5_walk_82 (by decide) ?_
          exact hk2 A0 (l3 + 1) h _ _ _ hPD hS (lv_sub hl [3, 4, 5, 0] rfl)
        · have h := (if_neg cc1).symm.trans h
          refine lv_aload_n hx hb dX5_walk_46 rfl (lv_at hl 3 rfl) ?_
          refine va_get (D := G.1) (ci := 1) (v := .ref (a1 1)) (C := RX1) (T := TX1) (N := 4) hx hb hts inlX1 hown hK hPD.1 6 rfl rfl 1 (by decide) (hts _ gw_272) (fun _ h9 => h9) rfl dX5_walk_47 ?_
          refine lv_aload_n hx hb dX5_walk_50 rfl (lv_at hl 2 rfl) ?_
          refine va_get (D := G.1) (ci := 6) (v := .ref (a0 3)) (C := RX6) (T := TX6) (N := 10) hx hb hts inlX6 hown hK hPD.1 0 rfl rfl 3 (by decide) (hts _ gw_273) (fun _ h9 => h9) rfl dX5_walk_51 ?_
          refine lv_iload_n hx hb dX5_walk_54 rfl (lv_at hl 5 rfl) ?_
          refine kNI (As := [.ref (a0 3), .int l3]) (rest := [.ref (a1 1)]) C0 (kt_X9_at l G (a0 3) 8 (A0 3) l3 (by decide)) gi_U_X9_at (host := "IdleCrimes") (index := 49) (List.mem_of_getElem? (i := 24) rfl) gw_6 gw_7 (n := 2) rfl (by decide +kernel) ⟨rfl, rfl, Nat.le_of_ble_eq_true rfl, Nat.le_of_ble_eq_true rfl⟩ hPD hS [4] [0, 1, 2, 3, 5, 6, 7, 8, 9, 10, 11, 12, 13, 14, 15, 16, 17, 18, 19, 20, 21, 22, 23, 24, 25, 26] [0, 1, 2, 3, 26, 4, 5, 6, 7, 8, 9, 10, 11, 12, 13, 14, 15, 16, 17, 18, 19, 20, 21, 22, 23, 24, 25] (wr := pick (wX6 G h0 a0 f0 A0 ++ (wX1 G h1 a1 f1 A1 ++ (wB G q2 g2 aB2 fB2 AB2))) [0, 1, 2, 3, 5, 6, 7, 8, 9, 10, 11, 12, 13, 14, 15, 16, 17, 18, 19, 20, 21, 22, 23, 24, 25, 26]) (wN := (wX6 G h0 a0 f0 A0 ++ (wX1 G h1 a1 f1 A1 ++ (wB G q2 g2 aB2 fB2 AB2)))) rfl rfl rfl rfl rfl hl.1 (Nat.le_of_ble_eq_true rfl) dX5_walk_55 (fun H locs hPD hS => ?_)
          refine kNI (As := [.ref (a1 1), .int (f9_at 8 (A0 3) l3)]) (rest := []) C0 (kt_X9_at l G (a1 1) 16 (A1 1) (f9_at 8 (A0 3) l3) (by decide)) gi_U_X9_at (host := "IdleCrimes") (index := 49) (List.mem_of_getElem? (i := 24) rfl) gw_6 gw_7 (n := 2) rfl (by decide +kernel) ⟨rfl, rfl, Nat.le_of_ble_eq_true rfl, Nat.le_of_ble_eq_true rfl⟩ hPD hS [7] [0, 1, 2, 3, 4, 5, 6, 8, 9, 10, 11, 12, 13, 14, 15, 16, 17, 18, 19, 20, 21, 22, 23, 24, 25, 26] [0, 1, 2, 3, 4, 5, 6, 26, 7, 8, 9, 10, 11, 12, 13, 14, 15, 16, 17, 18, 19, 20, 21, 22, 23, 24, 25] (wr := pick (wX6 G h0 a0 f0 A0 ++ (wX1 G h1 a1 f1 A1 ++ (wB G q2 g2 aB2 fB2 AB2))) [0, 1, 2, 3, 4, 5, 6, 8, 9, 10, 11, 12, 13, 14, 15, 16, 17, 18, 19, 20, 21, 22, 23, 24, 25, 26]) (wN := (wX6 G h0 a0 f0 A0 ++ (wX1 G h1 a1 f1 A1 ++ (wB G q2 g2 aB2 fB2 AB2)))) rfl rfl rfl rfl rfl hl.1 (Nat.le_of_ble_eq_true rfl) dX5_walk_58 (fun H locs hPD hS => ?_)
          refine lv_iload hx hb dX5_walk_61 (lv_at hl 0 rfl) ?_
          refine kNI (As := [.int (f9_at 16 (A1 1) (f9_at 8 (A0 3) l3)), .int q_4]) (rest := []) C0 (kt_X9_has l G  (f9_at 16 (A1 1) (f9_at 8 (A0 3) l3)) q_4) gi_U_X9_has (host := "IdleCrimes") (index := 71) (List.mem_of_getElem? (i := 25) rfl) gw_6 gw_74 (n := 2) rfl (by decide +kernel) ⟨rfl, rfl, Nat.le_of_ble_eq_true rfl, Nat.le_of_ble_eq_true rfl⟩ hPD hS [] [0, 1, 2, 3, 4, 5, 6, 7, 8, 9, 10, 11, 12, 13, 14, 15, 16, 17, 18, 19, 20, 21, 22, 23, 24, 25, 26] [0, 1, 2, 3, 4, 5, 6, 7, 8, 9, 10, 11, 12, 13, 14, 15, 16, 17, 18, 19, 20, 21, 22, 23, 24, 25, 26] (wr := (wX6 G h0 a0 f0 A0 ++ (wX1 G h1 a1 f1 A1 ++ (wB G q2 g2 aB2 fB2 AB2)))) (wN := (wX6 G h0 a0 f0 A0 ++ (wX1 G h1 a1 f1 A1 ++ (wB G q2 g2 aB2 fB2 AB2)))) rfl rfl rfl rfl rfl hl.1 (Nat.le_of_ble_eq_true rfl) dX5_walk_63 (fun H locs hPD hS => ?_)
          refine lv_if_eq (tgt := 79) hx hb dX5_walk_66 (by decide) (fun cc1 => ?_) (fun cc1 => ?_)
          · have h := (if_pos cc1).symm.trans h
            refine lv_iinc (v := l3 + 1) (lv' := [(3, .int (l3 + 1)), (5, .int q_4), (4, .ref (g2 5)), (0, .ref h0), (1, .ref h1), (2, .ref q2)]) hx hb dX5_walk_79 hl (k := 5) rfl rfl (by decide) rfl (fun ls hl => ?_)
            refine lv_goto (tgt := 2) hx hb dX5_walk_82 (by decide) ?_
            exact hk2 A0 (l3 + 1) h _ _ _ hPD hS (lv_sub hl [3, 4, 5, 0] rfl)
          · have h := (if_neg cc1).symm.trans h
            refine lv_aload_n hx hb dX5_walk_69 rfl (lv_at hl 2 rfl) ?_
            refine va_get (D := G.1) (ci := 6) (v := .ref (a0 3)) (C := RX6) (T := TX6) (N := 10) hx hb hts inlX6 hown hK hPD.1 0 rfl rfl 3 (by decide) (hts _ gw_273) (fun _ h9 => h9) rfl dX5_walk_70 ?_
            refine lv_iload_n hx hb dX5_walk_73 rfl (lv_at hl 5 rfl) ?_
            refine lv_iload hx hb dX5_walk_74 (lv_at hl 0 rfl) ?_
            obtain ⟨z_5, ez_5, h⟩ := lvl h
            have kc := kt_X9_put l G (a0 3) 8 (A0 3) l3 q_4 (by decide)
            rw [← ez_5] at kc
            clear ez_5
            refine kNV (As := [.ref (a0 3), .int l3, .int q_4]) (rest := []) C0 (kc) gi_U_X9_put (host := "IdleCrimes") (index := 75) (List.mem_of_getElem? (i := 26) rfl) gw_6 gw_19 (n := 3) rfl (by decide +kernel) ⟨rfl, rfl, Nat.le_of_ble_eq_true rfl, Nat.le_of_ble_eq_true rfl⟩ hPD hS [4] [0, 1, 2, 3, 5, 6, 7, 8, 9, 10, 11, 12, 13, 14, 15, 16, 17, 18, 19, 20, 21, 22, 23, 24, 25, 26] [0, 1, 2, 3, 26, 4, 5, 6, 7, 8, 9, 10, 11, 12, 13, 14, 15, 16, 17, 18, 19, 20, 21, 22, 23, 24, 25] (wr := pick (wX6 G h0 a0 f0 A0 ++ (wX1 G h1 a1 f1 A1 ++ (wB G q2 g2 aB2 fB2 AB2))) [0, 1, 2, 3, 5, 6, 7, 8, 9, 10, 11, 12, 13, 14, 15, 16, 17, 18, 19, 20, 21, 22, 23, 24, 25, 26]) (wN := (wX6 G h0 a0 f0 (updA A0 3 z_5) ++ (wX1 G h1 a1 f1 A1 ++ (wB G q2 g2 aB2 fB2 AB2)))) rfl rfl rfl rfl rfl hl.1 (Nat.le_of_ble_eq_true rfl) dX5_walk_76 (fun H locs hPD hS => ?_)
            obtain ⟨A0_6, eA0_6, h⟩ := lvl h
            have hPD : WD G DA (wX6 G h0 a0 f0 A0_6 ++ (wX1 G h1 a1 f1 A1 ++ (wB G q2 g2 aB2 fB2 AB2))) H := by rw [eA0_6]; exact hPD
            clear eA0_6
            refine lv_iinc (v := l3 + 1) (lv' := [(3, .int (l3 + 1)), (5, .int q_4), (4, .ref (g2 5)), (0, .ref h0), (1, .ref h1), (2, .ref q2)]) hx hb dX5_walk_79 hl (k := 5) rfl rfl (by decide) rfl (fun ls hl => ?_)
            refine lv_goto (tgt := 2) hx hb dX5_walk_82 (by decide) ?_
            exact hk2 A0_6 (l3 + 1) h _ _ _ hPD hS (lv_sub hl [3, 4, 5, 0] rfl)
    · refine lv_astore (lv' := [(4, .ref (g2 6)), (0, .ref h0), (1, .ref h1), (2, .ref q2), (3, .int l3)]) hx hb dX5_walk_11 hl (by decide) rfl (fun ls hl => ?_)
      refine lv_aload hx hb dX5_walk_13 (lv_at hl 0 rfl) ?_
      refine lv_ifnull hx hb dX5_walk_15 ?_
      refine lv_aload_n hx hb dX5_walk_18 rfl (lv_at hl 1 rfl) ?_
      refine lv_iload_n hx hb dX5_walk_19 rfl (lv_at hl 4 rfl) ?_
      refine kVI (As := [.int l3]) (rest := []) C0 (kt_X6_isTold l G h0 a0 f0 A0 l3) gi_V_X5_61_X6_isTold (n := 1) rfl (by decide +kernel) rfl ⟨rfl, rfl, Nat.le_of_ble_eq_true rfl, Nat.le_of_ble_eq_true rfl⟩ hPD hS 0 6 rfl rfl rfl [0, 1, 2, 3, 4, 5] [6, 7, 8, 9, 10, 11, 12, 13, 14, 15, 16, 17, 18, 19, 20, 21, 22, 23, 24, 25, 26] [21, 22, 23, 24, 25, 26, 0, 1, 2, 3, 4, 5, 6, 7, 8, 9, 10, 11, 12, 13, 14, 15, 16, 17, 18, 19, 20] (wr := (wX1 G h1 a1 f1 A1 ++ (wB G q2 g2 aB2 fB2 AB2))) (wN := (wX6 G h0 a0 f0 A0 ++ (wX1 G h1 a1 f1 A1 ++ (wB G q2 g2 aB2 fB2 AB2)))) rfl rfl rfl rfl rfl hl.1 (Nat.le_of_ble_eq_true rfl) dX5_walk_20 (fun H locs hPD hS => ?_)
      refine lv_if_eq (tgt := 79) hx hb dX5_walk_23 (by decide) (fun cc1 => ?_) (fun cc1 => ?_)
      · have h := (if_pos cc1).symm.trans h
        refine lv_iinc (v := l3 + 1) (lv' := [(3, .int (l3 + 1)), (4, .ref (g2 6)), (0, .ref h0), (1, .ref h1), (2, .ref q2)]) hx hb dX5_walk_79 hl (k := 4) rfl rfl (by decide) rfl (fun ls hl => ?_)
        refine lv_goto (tgt := 2) hx hb dX5_walk_82 (by decide) ?_
        exact hk2 A0 (l3 + 1) h _ _ _ hPD hS (lv_sub hl [2, 3, 4, 0] rfl)
      · have h := (if_neg cc1).symm.trans h
        refine lv_aload hx hb dX5_walk_26 (lv_at hl 0 rfl) ?_
        refine lv_aload_n hx hb dX5_walk_28 rfl (lv_at hl 1 rfl) ?_
        refine va_get (D := G.1) (ci := 6) (v := .int (f0 8)) (C := RX6) (T := TX6) (N := 10) hx hb hts inlX6 hown hK hPD.1 0 rfl rfl 8 (by decide) (hts _ gw_266) (fun _ h9 => h9) rfl dX5_walk_29 ?_
        obtain ⟨q_4, hq_4, h⟩ := ob2 h
        refine kVI (As := [.int (f0 8)]) (rest := []) C0 (kt_X0_stepAt l G (g2 6) (aB2 6) (fB2 6) (AB2 6) (f0 8) hq_4) gi_V_X5_62_X0_stepAt (n := 1) rfl (by decide +kernel) rfl ⟨rfl, rfl, Nat.le_of_ble_eq_true rfl, Nat.le_of_ble_eq_true rfl⟩ hPD hS 23 0 rfl rfl rfl [23, 24] [0, 1, 2, 3, 4, 5, 6, 7, 8, 9, 10, 11, 12, 13, 14, 15, 16, 17, 18, 19, 20, 21, 22, 25, 26] [0, 1, 2, 3, 4, 5, 6, 7, 8, 9, 10, 11, 12, 13, 14, 15, 16, 17, 18, 19, 20, 21, 22, 25, 26, 23, 24] (wr := pick (wX6 G h0 a0 f0 A0 ++ (wX1 G h1 a1 f1 A1 ++ (wB G q2 g2 aB2 fB2 AB2))) [0, 1, 2, 3, 4, 5, 6, 7, 8, 9, 10, 11, 12, 13, 14, 15, 16, 17, 18, 19, 20, 21, 22, 25, 26]) (wN := (wX6 G h0 a0 f0 A0 ++ (wX1 G h1 a1 f1 A1 ++ (wB G q2 g2 aB2 fB2 AB2)))) rfl rfl rfl rfl rfl hl.1 (Nat.le_of_ble_eq_true rfl) dX5_walk_32 (fun H locs hPD hS => ?_)
        refine lv_istore (lv' := [(5, .int q_4), (4, .ref (g2 6)), (0, .ref h0), (1, .ref h1), (2, .ref q2), (3, .int l3)]) hx hb dX5_walk_35 hl (by decide) rfl (fun ls hl => ?_)
        refine lv_aload_n hx hb dX5_walk_37 rfl (lv_at hl 3 rfl) ?_
        refine lv_iload hx hb dX5_walk_38 (lv_at hl 0 rfl) ?_
        refine kVI (As := [.int q_4]) (rest := []) C0 (kt_X1_isTold l G h1 a1 f1 A1 q_4) gi_V_X5_40_X1_isTold (n := 1) rfl (by decide +kernel) rfl ⟨rfl, rfl, Nat.le_of_ble_eq_true rfl, Nat.le_of_ble_eq_true rfl⟩ hPD hS 6 1 rfl rfl rfl [6, 7, 8, 9] [0, 1, 2, 3, 4, 5, 10, 11, 12, 13, 14, 15, 16, 17, 18, 19, 20, 21, 22, 23, 24, 25, 26] [0, 1, 2, 3, 4, 5, 23, 24, 25, 26, 6, 7, 8, 9, 10, 11, 12, 13, 14, 15, 16, 17, 18, 19, 20, 21, 22] (wr := (wX6 G h0 a0 f0 A0 ++ (wB G q2 g2 aB2 fB2 AB2))) (wN := (wX6 G h0 a0 f0 A0 ++ (wX1 G h1 a1 f1 A1 ++ (wB G q2 g2 aB2 fB2 AB2)))) rfl rfl rfl rfl rfl hl.1 (Nat.le_of_ble_eq_true rfl) dX5_walk_40 (fun H locs hPD hS => ?_)
        refine lv_if_eq (tgt := 79) hx hb dX5_walk_43 (by decide) (fun cc1 => ?_) (fun cc1 => ?_)
        · have h := (if_pos cc1).symm.trans h
          refine lv_iinc (v := l3 + 1) (lv' := [(3, .int (l3 + 1)), (5, .int q_4), (4, .ref (g2 6)), (0, .ref h0), (1, .ref h1), (2, .ref q2)]) hx hb dX5_walk_79 hl (k := 5) rfl rfl (by decide) rfl (fun ls hl => ?_)
          refine lv_goto (tgt := 2) hx hb dX5_walk_82 (by decide) ?_
          exact hk2 A0 (l3 + 1) h _ _ _ hPD hS (lv_sub hl [3, 4, 5, 0] rfl)
        · have h := (if_neg cc1).symm.trans h
          refine lv_aload_n hx hb dX5_walk_46 rfl (lv_at hl 3 rfl) ?_
          refine va_get (D := G.1) (ci := 1) (v := .ref (a1 1)) (C := RX1) (T := TX1) (N := 4) hx hb hts inlX1 hown hK hPD.1 6 rfl rfl 1 (by decide) (hts _ gw_272) (fun _ h9 => h9) rfl dX5_walk_47 ?_
          refine lv_aload_n hx hb dX5_walk_50 rfl (lv_at hl 2 rfl) ?_
          refine va_get (D := G.1) (ci := 6) (v := .ref (a0 3)) (C := RX6) (T := TX6) (N := 10) hx hb hts inlX6 hown hK hPD.1 0 rfl rfl 3 (by decide) (hts _ gw_273) (fun _ h9 => h9) rfl dX5_walk_51 ?_
          refine lv_iload_n hx hb dX5_walk_54 rfl (lv_at hl 5 rfl) ?_
          refine kNI (As := [.ref (a0 3), .int l3]) (rest := [.ref (a1 1)]) C0 (kt_X9_at l G (a0 3) 8 (A0 3) l3 (by decide)) gi_U_X9_at (host := "IdleCrimes") (index := 49) (List.mem_of_getElem? (i := 24) rfl) gw_6 gw_7 (n := 2) rfl (by decide +kernel) ⟨rfl, rfl, Nat.le_of_ble_eq_true rfl, Nat.le_of_ble_eq_true rfl⟩ hPD hS [4] [0, 1, 2, 3, 5, 6, 7, 8, 9, 10, 11, 12, 13, 14, 15, 16, 17, 18, 19, 20, 21, 22, 23, 24, 25, 26] [0, 1, 2, 3, 26, 4, 5, 6, 7, 8, 9, 10, 11, 12, 13, 14, 15, 16, 17, 18, 19, 20, 21, 22, 23, 24, 25] (wr := pick (wX6 G h0 a0 f0 A0 ++ (wX1 G h1 a1 f1 A1 ++ (wB G q2 g2 aB2 fB2 AB2))) [0, 1, 2, 3, 5, 6, 7, 8, 9, 10, 11, 12, 13, 14, 15, 16, 17, 18, 19, 20, 21, 22, 23, 24, 25, 26]) (wN := (wX6 G h0 a0 f0 A0 ++ (wX1 G h1 a1 f1 A1 ++ (wB G q2 g2 aB2 fB2 AB2)))) rfl rfl rfl rfl rfl hl.1 (Nat.le_of_ble_eq_true rfl) dX5_walk_55 (fun H locs hPD hS => ?_)
          refine kNI (As := [.ref (a1 1), .int (f9_at 8 (A0 3) l3)]) (rest := []) C0 (kt_X9_at l G (a1 1) 16 (A1 1) (f9_at 8 (A0 3) l3) (by decide)) gi_U_X9_at (host := "IdleCrimes") (index := 49) (List.mem_of_getElem? (i := 24) rfl) gw_6 gw_7 (n := 2) rfl (by decide +kernel) ⟨rfl, rfl, Nat.le_of_ble_eq_true rfl, Nat.le_of_ble_eq_true rfl⟩ hPD hS [7] [0, 1, 2, 3, 4, 5, 6, 8, 9, 10, 11, 12, 13, 14, 15, 16, 17, 18, 19, 20, 21, 22, 23, 24, 25, 26] [0, 1, 2, 3, 4, 5, 6, 26, 7, 8, 9, 10, 11, 12, 13, 14, 15, 16, 17, 18, 19, 20, 21, 22, 23, 24, 25] (wr := pick (wX6 G h0 a0 f0 A0 ++ (wX1 G h1 a1 f1 A1 ++ (wB G q2 g2 aB2 fB2 AB2))) [0, 1, 2, 3, 4, 5, 6, 8, 9, 10, 11, 12, 13, 14, 15, 16, 17, 18, 19, 20, 21, 22, 23, 24, 25, 26]) (wN := (wX6 G h0 a0 f0 A0 ++ (wX1 G h1 a1 f1 A1 ++ (wB G q2 g2 aB2 fB2 AB2)))) rfl rfl rfl rfl rfl hl.1 (Nat.le_of_ble_eq_true rfl) dX5_walk_58 (fun H locs hPD hS => ?_)
          refine lv_iload hx hb dX5_walk_61 (lv_at hl 0 rfl) ?_
          refine kNI (As := [.int (f9_at 16 (A1 1) (f9_at 8 (A0 3) l3)), .int q_4]) (rest := []) C0 (kt_X9_has l G  (f9_at 16 (A1 1) (f9_at 8 (A0 3) l3)) q_4) gi_U_X9_has (host := "IdleCrimes") (index := 71) (List.mem_of_getElem? (i := 25) rfl) gw_6 gw_74 (n := 2) rfl (by decide +kernel) ⟨rfl, rfl, Nat.le_of_ble_eq_true rfl, Nat.le_of_ble_eq_true rfl⟩ hPD hS [] [0, 1, 2, 3, 4, 5, 6, 7, 8, 9, 10, 11, 12, 13, 14, 15, 16, 17, 18, 19, 20, 21, 22, 23, 24, 25, 26] [0, 1, 2, 3, 4, 5, 6, 7, 8, 9, 10, 11, 12, 13, 14, 15, 16, 17, 18, 19, 20, 21, 22, 23, 24, 25, 26] (wr := (wX6 G h0 a0 f0 A0 ++ (wX1 G h1 a1 f1 A1 ++ (wB G q2 g2 aB2 fB2 AB2)))) (wN := (wX6 G h0 a0 f0 A0 ++ (wX1 G h1 a1 f1 A1 ++ (wB G q2 g2 aB2 fB2 AB2)))) rfl rfl rfl rfl rfl hl.1 (Nat.le_of_ble_eq_true rfl) dX5_walk_63 (fun H locs hPD hS => ?_)
          refine lv_if_eq (tgt := 79) hx hb dX5_walk_66 (by decide) (fun cc1 => ?_) (fun cc1 => ?_)
          · have h := (if_pos cc1).symm.trans h
            refine lv_iinc (v := l3 + 1) (lv' := [(3, .int (l3 + 1)), (5, .int q_4), (4, .ref (g2 6)), (0, .ref h0), (1, .ref h1), (2, .ref q2)]) hx hb dX5_walk_79 hl (k := 5) rfl rfl (by decide) rfl (fun ls hl => ?_)
            refine lv_goto (tgt := 2) hx hb dX5_walk_82 (by decide) ?_
            exact hk2 A0 (l3 + 1) h _ _ _ hPD hS (lv_sub hl [3, 4, 5, 0] rfl)
          · have h := (if_neg cc1).symm.trans h
            refine lv_aload_n hx hb dX5_walk_69 rfl (lv_at hl 2 rfl) ?_
            refine va_get (D := G.1) (ci := 6) (v := .ref (a0 3)) (C := RX6) (T := TX6) (N := 10) hx hb hts inlX6 hown hK hPD.1 0 rfl rfl 3 (by decide) (hts _ gw_273) (fun _ h9 => h9) rfl dX5_walk_70 ?_
            refine lv_iload_n hx hb dX5_walk_73 rfl (lv_at hl 5 rfl) ?_
            refine lv_iload hx hb dX5_walk_74 (lv_at hl 0 rfl) ?_
            obtain ⟨z_5, ez_5, h⟩ := lvl h
            have kc := kt_X9_put l G (a0 3) 8 (A0 3) l3 q_4 (by decide)
            rw [← ez_5] at kc
            clear ez_5
            refine kNV (As := [.ref (a0 3), .int l3, .int q_4]) (rest := []) C0 (kc) gi_U_X9_put (host := "IdleCrimes") (index := 75) (List.mem_of_getElem? (i := 26) rfl) gw_6 gw_19 (n := 3) rfl (by decide +kernel) ⟨rfl, rfl, Nat.le_of_ble_eq_true rfl, Nat.le_of_ble_eq_true rfl⟩ hPD hS [4] [0, 1, 2, 3, 5, 6, 7, 8, 9, 10, 11, 12, 13, 14, 15, 16, 17, 18, 19, 20, 21, 22, 23, 24, 25, 26] [0, 1, 2, 3, 26, 4, 5, 6, 7, 8, 9, 10, 11, 12, 13, 14, 15, 16, 17, 18, 19, 20, 21, 22, 23, 24, 25] (wr := pick (wX6 G h0 a0 f0 A0 ++ (wX1 G h1 a1 f1 A1 ++ (wB G q2 g2 aB2 fB2 AB2))) [0, 1, 2, 3, 5, 6, 7, 8, 9, 10, 11, 12, 13, 14, 15, 16, 17, 18, 19, 20, 21, 22, 23, 24, 25, 26]) (wN := (wX6 G h0 a0 f0 (updA A0 3 z_5) ++ (wX1 G h1 a1 f1 A1 ++ (wB G q2 g2 aB2 fB2 AB2)))) rfl rfl rfl rfl rfl hl.1 (Nat.le_of_ble_eq_true rfl) dX5_walk_76 (fun H locs hPD hS => ?_)
            obtain ⟨A0_6, eA0_6, h⟩ := lvl h
            have hPD : WD G DA (wX6 G h0 a0 f0 A0_6 ++ (wX1 G h1 a1 f1 A1 ++ (wB G q2 g2 aB2 fB2 AB2))) H := by rw [eA0_6]; exact hPD
            clear eA0_6
            refine lv_iinc (v := l3 + 1) (lv' := [(3, .int (l3 + 1)), (5, .int q_4), (4, .ref (g2 6)), (0, .ref h0), (1, .ref h1), (2, .ref q2)]) hx hb dX5_walk_79 hl (k := 5) rfl rfl (by decide) rfl (fun ls hl => ?_)
            refine lv_goto (tgt := 2) hx hb dX5_walk_82 (by decide) ?_
            exact hk2 A0_6 (l3 + 1) h _ _ _ hPD hS (lv_sub hl [3, 4, 5, 0] rfl)
    · refine lv_astore (lv' := [(4, .ref (g2 7)), (0, .ref h0), (1, .ref h1), (2, .ref q2), (3, .int l3)]) hx hb dX5_walk_11 hl (by decide) rfl (fun ls hl => ?_)
      refine lv_aload hx hb dX5_walk_13 (lv_at hl 0 rfl) ?_
      refine lv_ifnull hx hb dX5_walk_15 ?_
      refine lv_aload_n hx hb dX5_walk_18 rfl (lv_at hl 1 rfl) ?_
      refine lv_iload_n hx hb dX5_walk_19 rfl (lv_at hl 4 rfl) ?_
      refine kVI (As := [.int l3]) (rest := []) C0 (kt_X6_isTold l G h0 a0 f0 A0 l3) gi_V_X5_61_X6_isTold (n := 1) rfl (by decide +kernel) rfl ⟨rfl, rfl, Nat.le_of_ble_eq_true rfl, Nat.le_of_ble_eq_true rfl⟩ hPD hS 0 6 rfl rfl rfl [0, 1, 2, 3, 4, 5] [6, 7, 8, 9, 10, 11, 12, 13, 14, 15, 16, 17, 18, 19, 20, 21, 22, 23, 24, 25, 26] [21, 22, 23, 24, 25, 26, 0, 1, 2, 3, 4, 5, 6, 7, 8, 9, 10, 11, 12, 13, 14, 15, 16, 17, 18, 19, 20] (wr := (wX1 G h1 a1 f1 A1 ++ (wB G q2 g2 aB2 fB2 AB2))) (wN := (wX6 G h0 a0 f0 A0 ++ (wX1 G h1 a1 f1 A1 ++ (wB G q2 g2 aB2 fB2 AB2)))) rfl rfl rfl rfl rfl hl.1 (Nat.le_of_ble_eq_true rfl) dX5_walk_20 (fun H locs hPD hS => ?_)
      refine lv_if_eq (tgt := 79) hx hb dX5_walk_23 (by decide) (fun cc1 => ?_) (fun cc1 => ?_)
      · have h := (if_pos cc1).symm.trans h
        refine lv_iinc (v := l3 + 1) (lv' := [(3, .int (l3 + 1)), (4, .ref (g2 7)), (0, .ref h0), (1, .ref h1), (2, .ref q2)]) hx hb dX5_walk_79 hl (k := 4) rfl rfl (by decide) rfl (fun ls hl => ?_)
        refine lv_goto (tgt := 2) hx hb dX5_walk_82 (by decide) ?_
        exact hk2 A0 (l3 + 1) h _ _ _ hPD hS (lv_sub hl [2, 3, 4, 0] rfl)
      · have h := (if_neg cc1).symm.trans h
        refine lv_aload hx hb dX5_walk_26 (lv_at hl 0 rfl) ?_
        refine lv_aload_n hx hb dX5_walk_28 rfl (lv_at hl 1 rfl) ?_
        refine va_get (D := G.1) (ci := 6) (v := .int (f0 8)) (C := RX6) (T := TX6) (N := 10) hx hb hts inlX6 hown hK hPD.1 0 rfl rfl 8 (by decide) (hts _ gw_266) (fun _ h9 => h9) rfl dX5_walk_29 ?_
        obtain ⟨q_4, hq_4, h⟩ := ob2 h
        refine kVI (As := [.int (f0 8)]) (rest := []) C0 (kt_X0_stepAt l G (g2 7) (aB2 7) (fB2 7) (AB2 7) (f0 8) hq_4) gi_V_X5_62_X0_stepAt (n := 1) rfl (by decide +kernel) rfl ⟨rfl, rfl, Nat.le_of_ble_eq_true rfl, Nat.le_of_ble_eq_true rfl⟩ hPD hS 25 0 rfl rfl rfl [25, 26] [0, 1, 2, 3, 4, 5, 6, 7, 8, 9, 10, 11, 12, 13, 14, 15, 16, 17, 18, 19, 20, 21, 22, 23, 24] [0, 1, 2, 3, 4, 5, 6, 7, 8, 9, 10, 11, 12, 13, 14, 15, 16, 17, 18, 19, 20, 21, 22, 23, 24, 25, 26] (wr := pick (wX6 G h0 a0 f0 A0 ++ (wX1 G h1 a1 f1 A1 ++ (wB G q2 g2 aB2 fB2 AB2))) [0, 1, 2, 3, 4, 5, 6, 7, 8, 9, 10, 11, 12, 13, 14, 15, 16, 17, 18, 19, 20, 21, 22, 23, 24]) (wN := (wX6 G h0 a0 f0 A0 ++ (wX1 G h1 a1 f1 A1 ++ (wB G q2 g2 aB2 fB2 AB2)))) rfl rfl rfl rfl rfl hl.1 (Nat.le_of_ble_eq_true rfl) dX5_walk_32 (fun H locs hPD hS => ?_)
        refine lv_istore (lv' := [(5, .int q_4), (4, .ref (g2 7)), (0, .ref h0), (1, .ref h1), (2, .ref q2), (3, .int l3)]) hx hb dX5_walk_35 hl (by decide) rfl (fun ls hl => ?_)
        refine lv_aload_n hx hb dX5_walk_37 rfl (lv_at hl 3 rfl) ?_
        refine lv_iload hx hb dX5_walk_38 (lv_at hl 0 rfl) ?_
        refine kVI (As := [.int q_4]) (rest := []) C0 (kt_X1_isTold l G h1 a1 f1 A1 q_4) gi_V_X5_40_X1_isTold (n := 1) rfl (by decide +kernel) rfl ⟨rfl, rfl, Nat.le_of_ble_eq_true rfl, Nat.le_of_ble_eq_true rfl⟩ hPD hS 6 1 rfl rfl rfl [6, 7, 8, 9] [0, 1, 2, 3, 4, 5, 10, 11, 12, 13, 14, 15, 16, 17, 18, 19, 20, 21, 22, 23, 24, 25, 26] [0, 1, 2, 3, 4, 5, 23, 24, 25, 26, 6, 7, 8, 9, 10, 11, 12, 13, 14, 15, 16, 17, 18, 19, 20, 21, 22] (wr := (wX6 G h0 a0 f0 A0 ++ (wB G q2 g2 aB2 fB2 AB2))) (wN := (wX6 G h0 a0 f0 A0 ++ (wX1 G h1 a1 f1 A1 ++ (wB G q2 g2 aB2 fB2 AB2)))) rfl rfl rfl rfl rfl hl.1 (Nat.le_of_ble_eq_true rfl) dX5_walk_40 (fun H locs hPD hS => ?_)
        refine lv_if_eq (tgt := 79) hx hb dX5_walk_43 (by decide) (fun cc1 => ?_) (fun cc1 => ?_)
        · have h := (if_pos cc1).symm.trans h
          refine lv_iinc (v := l3 + 1) (lv' := [(3, .int (l3 + 1)), (5, .int q_4), (4, .ref (g2 7)), (0, .ref h0), (1, .ref h1), (2, .ref q2)]) hx hb dX5_walk_79 hl (k := 5) rfl rfl (by decide) rfl (fun ls hl => ?_)
          refine lv_goto (tgt := 2) hx hb dX5_walk_82 (by decide) ?_
          exact hk2 A0 (l3 + 1) h _ _ _ hPD hS (lv_sub hl [3, 4, 5, 0] rfl)
        · have h := (if_neg cc1).symm.trans h
          refine lv_aload_n hx hb dX5_walk_46 rfl (lv_at hl 3 rfl) ?_
          refine va_get (D := G.1) (ci := 1) (v := .ref (a1 1)) (C := RX1) (T := TX1) (N := 4) hx hb hts inlX1 hown hK hPD.1 6 rfl rfl 1 (by decide) (hts _ gw_272) (fun _ h9 => h9) rfl dX5_walk_47 ?_
          refine lv_aload_n hx hb dX5_walk_50 rfl (lv_at hl 2 rfl) ?_
          refine va_get (D := G.1) (ci := 6) (v := .ref (a0 3)) (C := RX6) (T := TX6) (N := 10) hx hb hts inlX6 hown hK hPD.1 0 rfl rfl 3 (by decide) (hts _ gw_273) (fun _ h9 => h9) rfl dX5_walk_51 ?_
          refine lv_iload_n hx hb dX5_walk_54 rfl (lv_at hl 5 rfl) ?_
          refine kNI (As := [.ref (a0 3), .int l3]) (rest := [.ref (a1 1)]) C0 (kt_X9_at l G (a0 3) 8 (A0 3) l3 (by decide)) gi_U_X9_at (host := "IdleCrimes") (index := 49) (List.mem_of_getElem? (i := 24) rfl) gw_6 gw_7 (n := 2) rfl (by decide +kernel) ⟨rfl, rfl, Nat.le_of_ble_eq_true rfl, Nat.le_of_ble_eq_true rfl⟩ hPD hS [4] [0, 1, 2, 3, 5, 6, 7, 8, 9, 10, 11, 12, 13, 14, 15, 16, 17, 18, 19, 20, 21, 22, 23, 24, 25, 26] [0, 1, 2, 3, 26, 4, 5, 6, 7, 8, 9, 10, 11, 12, 13, 14, 15, 16, 17, 18, 19, 20, 21, 22, 23, 24, 25] (wr := pick (wX6 G h0 a0 f0 A0 ++ (wX1 G h1 a1 f1 A1 ++ (wB G q2 g2 aB2 fB2 AB2))) [0, 1, 2, 3, 5, 6, 7, 8, 9, 10, 11, 12, 13, 14, 15, 16, 17, 18, 19, 20, 21, 22, 23, 24, 25, 26]) (wN := (wX6 G h0 a0 f0 A0 ++ (wX1 G h1 a1 f1 A1 ++ (wB G q2 g2 aB2 fB2 AB2)))) rfl rfl rfl rfl rfl hl.1 (Nat.le_of_ble_eq_true rfl) dX5_walk_55 (fun H locs hPD hS => ?_)
          refine kNI (As := [.ref (a1 1), .int (f9_at 8 (A0 3) l3)]) (rest := []) C0 (kt_X9_at l G (a1 1) 16 (A1 1) (f9_at 8 (A0 3) l3) (by decide)) gi_U_X9_at (host := "IdleCrimes") (index := 49) (List.mem_of_getElem? (i := 24) rfl) gw_6 gw_7 (n := 2) rfl (by decide +kernel) ⟨rfl, rfl, Nat.le_of_ble_eq_true rfl, Nat.le_of_ble_eq_true rfl⟩ hPD hS [7] [0, 1, 2, 3, 4, 5, 6, 8, 9, 10, 11, 12, 13, 14, 15, 16, 17, 18, 19, 20, 21, 22, 23, 24, 25, 26] [0, 1, 2, 3, 4, 5, 6, 26, 7, 8, 9, 10, 11, 12, 13, 14, 15, 16, 17, 18, 19, 20, 21, 22, 23, 24, 25] (wr := pick (wX6 G h0 a0 f0 A0 ++ (wX1 G h1 a1 f1 A1 ++ (wB G q2 g2 aB2 fB2 AB2))) [0, 1, 2, 3, 4, 5, 6, 8, 9, 10, 11, 12, 13, 14, 15, 16, 17, 18, 19, 20, 21, 22, 23, 24, 25, 26]) (wN := (wX6 G h0 a0 f0 A0 ++ (wX1 G h1 a1 f1 A1 ++ (wB G q2 g2 aB2 fB2 AB2)))) rfl rfl rfl rfl rfl hl.1 (Nat.le_of_ble_eq_true rfl) dX5_walk_58 (fun H locs hPD hS => ?_)
          refine lv_iload hx hb dX5_walk_61 (lv_at hl 0 rfl) ?_
          refine kNI (As := [.int (f9_at 16 (A1 1) (f9_at 8 (A0 3) l3)), .int q_4]) (rest := []) C0 (kt_X9_has l G  (f9_at 16 (A1 1) (f9_at 8 (A0 3) l3)) q_4) gi_U_X9_has (host := "IdleCrimes") (index := 71) (List.mem_of_getElem? (i := 25) rfl) gw_6 gw_74 (n := 2) rfl (by decide +kernel) ⟨rfl, rfl, Nat.le_of_ble_eq_true rfl, Nat.le_of_ble_eq_true rfl⟩ hPD hS [] [0, 1, 2, 3, 4, 5, 6, 7, 8, 9, 10, 11, 12, 13, 14, 15, 16, 17, 18, 19, 20, 21, 22, 23, 24, 25, 26] [0, 1, 2, 3, 4, 5, 6, 7, 8, 9, 10, 11, 12, 13, 14, 15, 16, 17, 18, 19, 20, 21, 22, 23, 24, 25, 26] (wr := (wX6 G h0 a0 f0 A0 ++ (wX1 G h1 a1 f1 A1 ++ (wB G q2 g2 aB2 fB2 AB2)))) (wN := (wX6 G h0 a0 f0 A0 ++ (wX1 G h1 a1 f1 A1 ++ (wB G q2 g2 aB2 fB2 AB2)))) rfl rfl rfl rfl rfl hl.1 (Nat.le_of_ble_eq_true rfl) dX5_walk_63 (fun H locs hPD hS => ?_)
          refine lv_if_eq (tgt := 79) hx hb dX5_walk_66 (by decide) (fun cc1 => ?_) (fun cc1 => ?_)
          · have h := (if_pos cc1).symm.trans h
            refine lv_iinc (v := l3 + 1) (lv' := [(3, .int (l3 + 1)), (5, .int q_4), (4, .ref (g2 7)), (0, .ref h0), (1, .ref h1), (2, .ref q2)]) hx hb dX5_walk_79 hl (k := 5) rfl rfl (by decide) rfl (fun ls hl => ?_)
            refine lv_goto (tgt := 2) hx hb dX5_walk_82 (by decide) ?_
            exact hk2 A0 (l3 + 1) h _ _ _ hPD hS (lv_sub hl [3, 4, 5, 0] rfl)
          · have h := (if_neg cc1).symm.trans h
            refine lv_aload_n hx hb dX5_walk_69 rfl (lv_at hl 2 rfl) ?_
            refine va_get (D := G.1) (ci := 6) (v := .ref (a0 3)) (C := RX6) (T := TX6) (N := 10) hx hb hts inlX6 hown hK hPD.1 0 rfl rfl 3 (by decide) (hts _ gw_273) (fun _ h9 => h9) rfl dX5_walk_70 ?_
            refine lv_iload_n hx hb dX5_walk_73 rfl (lv_at hl 5 rfl) ?_
            refine lv_iload hx hb dX5_walk_74 (lv_at hl 0 rfl) ?_
            obtain ⟨z_5, ez_5, h⟩ := lvl h
            have kc := kt_X9_put l G (a0 3) 8 (A0 3) l3 q_4 (by decide)
            rw [← ez_5] at kc
            clear ez_5
            refine kNV (As := [.ref (a0 3), .int l3, .int q_4]) (rest := []) C0 (kc) gi_U_X9_put (host := "IdleCrimes") (index := 75) (List.mem_of_getElem? (i := 26) rfl) gw_6 gw_19 (n := 3) rfl (by decide +kernel) ⟨rfl, rfl, Nat.le_of_ble_eq_true rfl, Nat.le_of_ble_eq_true rfl⟩ hPD hS [4] [0, 1, 2, 3, 5, 6, 7, 8, 9, 10, 11, 12, 13, 14, 15, 16, 17, 18, 19, 20, 21, 22, 23, 24, 25, 26] [0, 1, 2, 3, 26, 4, 5, 6, 7, 8, 9, 10, 11, 12, 13, 14, 15, 16, 17, 18, 19, 20, 21, 22, 23, 24, 25] (wr := pick (wX6 G h0 a0 f0 A0 ++ (wX1 G h1 a1 f1 A1 ++ (wB G q2 g2 aB2 fB2 AB2))) [0, 1, 2, 3, 5, 6, 7, 8, 9, 10, 11, 12, 13, 14, 15, 16, 17, 18, 19, 20, 21, 22, 23, 24, 25, 26]) (wN := (wX6 G h0 a0 f0 (updA A0 3 z_5) ++ (wX1 G h1 a1 f1 A1 ++ (wB G q2 g2 aB2 fB2 AB2)))) rfl rfl rfl rfl rfl hl.1 (Nat.le_of_ble_eq_true rfl) dX5_walk_76 (fun H locs hPD hS => ?_)
            obtain ⟨A0_6, eA0_6, h⟩ := lvl h
            have hPD : WD G DA (wX6 G h0 a0 f0 A0_6 ++ (wX1 G h1 a1 f1 A1 ++ (wB G q2 g2 aB2 fB2 AB2))) H := by rw [eA0_6]; exact hPD
            clear eA0_6
            refine lv_iinc (v := l3 + 1) (lv' := [(3, .int (l3 + 1)), (5, .int q_4), (4, .ref (g2 7)), (0, .ref h0), (1, .ref h1), (2, .ref q2)]) hx hb dX5_walk_79 hl (k := 5) rfl rfl (by decide) rfl (fun ls hl => ?_)
            refine lv_goto (tgt := 2) hx hb dX5_walk_82 (by decide) ?_
            exact hk2 A0_6 (l3 + 1) h _ _ _ hPD hS (lv_sub hl [3, 4, 5, 0] rfl)
end WALK
