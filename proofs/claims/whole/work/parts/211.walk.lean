section WALK
variable {p : Program} {l : Launch} {e : Env} {s : State} {m : MethodId} {args : Array Value} {below : List Frame} {meth : Method} {c : Code} {G : Gp} {DA : Nat → Prop}
set_option maxRecDepth 100000 in
set_option maxHeartbeats 4000000 in
theorem ww_f4_tightest_l13  (C0 : Cx cX4_tightest 8 (some .int) RX4 p s m args meth c G DA) {q0 : Nat} {q1 : Nat} {n0 : Nat} {xs0 : Nat → Int32} {n1 : Nat} {xs1 : Nat → Int32} {p2 : Int32} {p3 : Int32} (hn0 : n0 < 2147483648) (hn1 : n1 < 2147483648)  {res : Int32}  : ∀ (n : Nat) (l4 : Int32) (l5 : Int32) (l6 : Int32), f4_tightest_l13 n0 xs0 n1 xs1 p2 p3  n l4 l5 l6 = some res → ∀ (H : Heap) (locs : List Loc) (ls : Array Slot), WD G DA (wI G q0 n0 xs0 ++ (wI G q1 n1 xs1)) H → va_S DA s.heap H locs → lv_has ls 8 [(0, .ref q0), (1, .ref q1), (2, .int p2), (3, .int p3), (4, .int l4), (5, .int l5), (6, .int l6)] → W p l e rmX4_tightest s m args below meth c H locs 0 0 (MQ below (QI G DA res (wI G q0 n0 xs0 ++ (wI G q1 n1 xs1))) args s 0 0 DA) (F0 m 13 ls []) := by
  intro n
  induction n with
  | zero => intro l4 l5 l6 h; cases h
  | succ n ih => intro l4 l5 l6 h; exact ww_f4_tightest_b13 C0 hn0 hn1  ih l4 l5 l6 h
set_option maxRecDepth 100000 in
set_option maxHeartbeats 4000000 in
theorem kt_X4_tightest (l : Launch) (G : Gp) (q0 : Nat) (q1 : Nat) (n0 : Nat) (xs0 : Nat → Int32) (n1 : Nat) (xs1 : Nat → Int32) (p2 : Int32) (p3 : Int32) (hn0 : n0 < 2147483648) (hn1 : n1 < 2147483648) : ∀ {r : Int32}, f4_tightest n0 xs0 n1 xs1 p2 p3 = some r → CtrI l yX4_tightest cX4_tightest 8 (some .int) rmX4_tightest G [.ref q0, .ref q1, .int p2, .int p3] (wI G q0 n0 xs0 ++ (wI G q1 n1 xs1)) r (wI G q0 n0 xs0 ++ (wI G q1 n1 xs1)) := by
  intro res h
  refine ctrI_of (cc := cX4_tightest) (maxL := 8) (ret := (some .int)) (by decide +kernel) rfl (Nat.le_of_ble_eq_true rfl) (fun p e s m below meth c DA C0 hP hD ls hl => ?_)
  have hPD : WD G DA (wI G q0 n0 xs0 ++ (wI G q1 n1 xs1)) s.heap := ⟨hP, hD⟩
  have hS : va_S DA s.heap s.heap [] := va_S.rf
  have hl : lv_has ls 8 [(0, .ref q0), (1, .ref q1), (2, .int p2), (3, .int p3)] := hl
  obtain ⟨hx, hb, hml, hown, hts⟩ := C0.1
  have hK := C0.2.2.2.1
  unfold f4_tightest at h
  refine lv_iload_n hx hb dX4_tightest_0 rfl (lv_at hl 2 rfl) ?_
  obtain ⟨q_1, hq_1, h⟩ := ob2 h
  refine kNI (As := [.int p2]) (rest := []) C0 (kt_X9_lowestOf l G  p2 hq_1) gi_U_X9_lowestOf (host := "IdleCrimes") (index := 48) (List.mem_of_getElem? (i := 39) rfl) gw_6 gw_124 (n := 1) rfl (by decide +kernel) ⟨rfl, rfl, Nat.le_of_ble_eq_true rfl, Nat.le_of_ble_eq_true rfl⟩ hPD hS [] [0, 1] [0, 1] (wr := (wI G q0 n0 xs0 ++ (wI G q1 n1 xs1))) (wN := (wI G q0 n0 xs0 ++ (wI G q1 n1 xs1))) rfl rfl rfl rfl rfl hl.1 (Nat.le_of_ble_eq_true rfl) dX4_tightest_1 (fun H locs hPD hS => ?_)
  refine lv_istore (lv' := [(4, .int q_1), (0, .ref q0), (1, .ref q1), (2, .int p2), (3, .int p3)]) hx hb dX4_tightest_4 hl (by decide) rfl (fun ls hl => ?_)
  refine lv_bipush (v := 17) hx hb dX4_tightest_6 (by decide) ?_
  refine lv_istore (lv' := [(5, .int 17), (4, .int q_1), (0, .ref q0), (1, .ref q1), (2, .int p2), (3, .int p3)]) hx hb dX4_tightest_8 hl (by decide) rfl (fun ls hl => ?_)
  refine lv_iconst (v := 0) hx hb dX4_tightest_10 (by decide) ?_
  refine lv_istore (lv' := [(6, .int 0), (5, .int 17), (4, .int q_1), (0, .ref q0), (1, .ref q1), (2, .int p2), (3, .int p3)]) hx hb dX4_tightest_11 hl (by decide) rfl (fun ls hl => ?_)
  exact ww_f4_tightest_l13 C0 hn0 hn1 NF q_1 17 0 h _ _ _ hPD hS (lv_sub hl [3, 4, 5, 6, 2, 1, 0] rfl)
abbrev rmGX4_canFill (d : Nat) : Room := { frames := d + 4, cells := 0, slots := 0, locals := 27 * d + 91 }
set_option maxRecDepth 100000 in
set_option maxHeartbeats 4000000 in
theorem ww_f4_canFill_b18 {d : Nat} {rec : Nat → (Nat → Int32) → Nat → (Nat → Int32) → Int32 → Int32 → Option (Int32 × (Nat → Int32))} (hrec0 : ∀ (l : Launch) (G : Gp) (q0 : Nat) (q1 : Nat) (n0 : Nat) (xs0 : Nat → Int32) (n1 : Nat) (xs1 : Nat → Int32) (p2 : Int32) (p3 : Int32) (hn0 : n0 < 2147483648) (hn1 : n1 < 2147483648), ∀ {r : Int32 × (Nat → Int32)}, rec n0 xs0 n1 xs1 p2 p3 = some r → CtrI l yX4_canFill cX4_canFill 8 (some .boolean) (rmGX4_canFill d) G [.ref q0, .ref q1, .int p2, .int p3] (wI G q0 n0 xs0 ++ (wI G q1 n1 xs1)) r.1 (wI G q0 n0 r.2 ++ (wI G q1 n1 xs1))) (hdd : True)  (C0 : Cx cX4_canFill 8 (some .boolean) RX4 p s m args meth c G DA) {q0 : Nat} {q1 : Nat} {n0 : Nat} {n1 : Nat} {xs1 : Nat → Int32} {p2 : Int32} {p3 : Int32} (hn0 : n0 < 2147483648) (hn1 : n1 < 2147483648) {k18 : (Nat → Int32) → Int32 → Int32 → Option (Int32 × (Nat → Int32))} {res : Int32 × (Nat → Int32)}  (hk18 : ∀ (xs0 : Nat → Int32) (l4 : Int32) (l5 : Int32), k18 xs0 l4 l5 = some res → ∀ (H : Heap) (locs : List Loc) (ls : Array Slot), WD G DA (wI G q0 n0 xs0 ++ (wI G q1 n1 xs1)) H → va_S DA s.heap H locs → lv_has ls 8 [(0, .ref q0), (1, .ref q1), (2, .int p2), (3, .int p3), (4, .int l4), (5, .int l5)] → W p l e (rmGX4_canFill (d + 1)) s m args below meth c H locs 0 0 (MQ below (QI G DA res.1 (wI G q0 n0 res.2 ++ (wI G q1 n1 xs1))) args s 0 0 DA) (F0 m 18 ls [])) : ∀ (xs0 : Nat → Int32) (l4 : Int32) (l5 : Int32), f4_canFill_b18 rec n0 n1 xs1 p2 p3  k18 xs0 l4 l5 = some res → ∀ (H : Heap) (locs : List Loc) (ls : Array Slot), WD G DA (wI G q0 n0 xs0 ++ (wI G q1 n1 xs1)) H → va_S DA s.heap H locs → lv_has ls 8 [(0, .ref q0), (1, .ref q1), (2, .int p2), (3, .int p3), (4, .int l4), (5, .int l5)] → W p l e (rmGX4_canFill (d + 1)) s m args below meth c H locs 0 0 (MQ below (QI G DA res.1 (wI G q0 n0 res.2 ++ (wI G q1 n1 xs1))) args s 0 0 DA) (F0 m 18 ls []) := by
  obtain ⟨hx, hb, hml, hown, hts⟩ := C0.1
  have hK := C0.2.2.2.1
  intro xs0 l4 l5 h _ _ _ hPD hS hl
  unfold f4_canFill_b18 at h
  refine lv_iload hx hb dX4_canFill_18 (lv_at hl 5 rfl) ?_
  refine lv_iload_n hx hb dX4_canFill_20 rfl (lv_at hl 3 rfl) ?_
  refine lv_icmp_ge (tgt := 100) hx hb dX4_canFill_21 (by decide) (fun cc1 => ?_) (fun cc1 => ?_)
  · have h := (if_pos cc1).symm.trans h
    refine lv_iconst (v := 0) hx hb dX4_canFill_100 (by decide) ?_
    obtain rfl := Option.some.inj h
    exact eZ C0 hPD.1 hPD.2 hS rfl rfl dX4_canFill_101
  · have h := (if_neg cc1).symm.trans h
    refine lv_aload_n hx hb dX4_canFill_24 rfl (lv_at hl 0 rfl) ?_
    refine lv_iload hx hb dX4_canFill_25 (lv_at hl 5 rfl) ?_
    refine kNI (As := [.ref q0, .int l5]) (rest := []) C0 (kt_X9_at l G q0 n0 xs0 l5 hn0) gi_U_X9_at (host := "IdleCrimes") (index := 36) (List.mem_of_getElem? (i := 41) rfl) gw_6 gw_7 (n := 2) rfl (by decide +kernel) ⟨rfl, rfl, by simp only [rmGX4_canFill, rmX9_at]; omega, by simp only [rmGX4_canFill, rmX9_at]; omega⟩ hPD hS [0] [1] [1, 0] (wr := pick (wI G q0 n0 xs0 ++ (wI G q1 n1 xs1)) [1]) (wN := (wI G q0 n0 xs0 ++ (wI G q1 n1 xs1))) rfl rfl rfl rfl rfl hl.1 (Nat.le_of_ble_eq_true rfl) dX4_canFill_27 (fun H locs hPD hS => ?_)
    refine lv_istore (lv' := [(6, .int (f9_at n0 xs0 l5)), (0, .ref q0), (1, .ref q1), (2, .int p2), (3, .int p3), (4, .int l4), (5, .int l5)]) hx hb dX4_canFill_30 hl (by decide) rfl (fun ls hl => ?_)
    refine lv_iload hx hb dX4_canFill_32 (lv_at hl 0 rfl) ?_
    refine lv_aload_n hx hb dX4_canFill_34 rfl (lv_at hl 2 rfl) ?_
    refine lv_iload hx hb dX4_canFill_35 (lv_at hl 5 rfl) ?_
    refine kNI (As := [.ref q1, .int l4]) (rest := [.int (f9_at n0 xs0 l5)]) C0 (kt_X9_at l G q1 n1 xs1 l4 hn1) gi_U_X9_at (host := "IdleCrimes") (index := 36) (List.mem_of_getElem? (i := 41) rfl) gw_6 gw_7 (n := 2) rfl (by decide +kernel) ⟨rfl, rfl, by simp only [rmGX4_canFill, rmX9_at]; omega, by simp only [rmGX4_canFill, rmX9_at]; omega⟩ hPD hS [1] [0] [0, 1] (wr := pick (wI G q0 n0 xs0 ++ (wI G q1 n1 xs1)) [0]) (wN := (wI G q0 n0 xs0 ++ (wI G q1 n1 xs1))) rfl rfl rfl rfl rfl hl.1 (Nat.le_of_ble_eq_true rfl) dX4_canFill_37 (fun H locs hPD hS => ?_)
    refine lv_iand hx hb dX4_canFill_40 ?_
    refine lv_if_ne (tgt := 94) hx hb dX4_canFill_41 (by decide) (fun cc1 => ?_) (fun cc1 => ?_)
    · have h := (if_neg cc1).symm.trans h
      refine lv_iinc (v := l5 + 1) (lv' := [(5, .int (l5 + 1)), (6, .int (f9_at n0 xs0 l5)), (0, .ref q0), (1, .ref q1), (2, .int p2), (3, .int p3), (4, .int l4)]) hx hb dX4_canFill_94 hl (k := 6) rfl rfl (by decide) rfl (fun ls hl => ?_)
      refine lv_goto (tgt := 18) hx hb dX4_canFill_97 (by decide) ?_
      exact hk18 xs0 l4 (l5 + 1) h _ _ _ hPD hS (lv_sub hl [2, 3, 4, 5, 6, 0] rfl)
    · have h := (if_pos cc1).symm.trans h
      refine lv_aload_n hx hb dX4_canFill_44 rfl (lv_at hl 1 rfl) ?_
      refine lv_iload hx hb dX4_canFill_45 (lv_at hl 6 rfl) ?_
      refine lv_iload hx hb dX4_canFill_47 (lv_at hl 0 rfl) ?_
      refine lv_iconst (v := 1) hx hb dX4_canFill_49 (by decide) ?_
      refine lv_iload hx hb dX4_canFill_50 (lv_at hl 5 rfl) ?_
      refine lv_ishl hx hb dX4_canFill_52 ?_
      refine lv_ior hx hb dX4_canFill_53 ?_
      obtain ⟨z_2, ez_2, h⟩ := lvl h
      have kc := kt_X9_put l G q0 n0 xs0 l5 ((f9_at n0 xs0 l5) ||| (shl 1 l4)) hn0
      rw [← ez_2] at kc
      clear ez_2
      refine kNV (As := [.ref q0, .int l5, .int ((f9_at n0 xs0 l5) ||| (shl 1 l4))]) (rest := []) C0 (kc) gi_U_X9_put (host := "IdleCrimes") (index := 40) (List.mem_of_getElem? (i := 42) rfl) gw_6 gw_19 (n := 3) rfl (by decide +kernel) ⟨rfl, rfl, by simp only [rmGX4_canFill, rmX9_put]; omega, by simp only [rmGX4_canFill, rmX9_put]; omega⟩ hPD hS [0] [1] [1, 0] (wr := pick (wI G q0 n0 xs0 ++ (wI G q1 n1 xs1)) [1]) (wN := (wI G q0 n0 z_2 ++ (wI G q1 n1 xs1))) rfl rfl rfl rfl rfl hl.1 (Nat.le_of_ble_eq_true rfl) dX4_canFill_54 (fun H locs hPD hS => ?_)
      obtain ⟨y0_3, ey0_3, h⟩ := lvl h
      have hPD : WD G DA (wI G q0 n0 y0_3 ++ (wI G q1 n1 xs1)) H := by rw [ey0_3]; exact hPD
      clear ey0_3
      refine lv_aload_n hx hb dX4_canFill_57 rfl (lv_at hl 1 rfl) ?_
      refine lv_aload_n hx hb dX4_canFill_58 rfl (lv_at hl 2 rfl) ?_
      refine lv_iload_n hx hb dX4_canFill_59 rfl (lv_at hl 3 rfl) ?_
      refine lv_iconst (v := 1) hx hb dX4_canFill_60 (by decide) ?_
      refine lv_iload hx hb dX4_canFill_61 (lv_at hl 5 rfl) ?_
      refine lv_ishl hx hb dX4_canFill_63 ?_
      refine lv_iconst (v := (-1)) hx hb dX4_canFill_64 (by decide) ?_
      refine lv_ixor hx hb dX4_canFill_65 ?_
      refine lv_iand hx hb dX4_canFill_66 ?_
      refine lv_iload_n hx hb dX4_canFill_67 rfl (lv_at hl 4 rfl) ?_
      obtain ⟨q_4, hq_4, h⟩ := ob2 h
      refine kSI (As := [.ref q0, .ref q1, .int (p2 &&& ((shl 1 l4) ^^^ (-1))), .int p3]) (rest := []) C0 (hrec0 l G q0 q1 n0 y0_3 n1 xs1 (p2 &&& ((shl 1 l4) ^^^ (-1))) p3 hn0 hn1 hq_4) gi_S_X4_24_X4_canFill (n := 4) rfl (by decide +kernel) ⟨rfl, rfl, by simp only [rmGX4_canFill]; omega, by simp only [rmGX4_canFill]; omega⟩ hPD hS [0, 1] [] [0, 1] (wr := pick (wI G q0 n0 y0_3 ++ (wI G q1 n1 xs1)) []) (wN := (wI G q0 n0 q_4.2 ++ (wI G q1 n1 xs1))) rfl rfl rfl rfl rfl hl.1 (Nat.le_of_ble_eq_true rfl) dX4_canFill_68 (fun H locs hPD hS => ?_)
      obtain ⟨y0_5, ey0_5, h⟩ := lvl h
      have hPD : WD G DA (wI G q0 n0 y0_5 ++ (wI G q1 n1 xs1)) H := by rw [ey0_5]; exact hPD
      clear ey0_5
      refine lv_istore (lv' := [(7, .int q_4.1), (6, .int (f9_at n0 xs0 l5)), (0, .ref q0), (1, .ref q1), (2, .int p2), (3, .int p3), (4, .int l4), (5, .int l5)]) hx hb dX4_canFill_71 hl (by decide) rfl (fun ls hl => ?_)
      refine lv_aload_n hx hb dX4_canFill_73 rfl (lv_at hl 2 rfl) ?_
      refine lv_iload hx hb dX4_canFill_74 (lv_at hl 7 rfl) ?_
      refine lv_iload hx hb dX4_canFill_76 (lv_at hl 1 rfl) ?_
      obtain ⟨z_6, ez_6, h⟩ := lvl h
      have kc := kt_X9_put l G q0 n0 y0_5 l5 (f9_at n0 xs0 l5) hn0
      rw [← ez_6] at kc
      clear ez_6
      refine kNV (As := [.ref q0, .int l5, .int (f9_at n0 xs0 l5)]) (rest := []) C0 (kc) gi_U_X9_put (host := "IdleCrimes") (index := 40) (List.mem_of_getElem? (i := 42) rfl) gw_6 gw_19 (n := 3) rfl (by decide +kernel) ⟨rfl, rfl, by simp only [rmGX4_canFill, rmX9_put]; omega, by simp only [rmGX4_canFill, rmX9_put]; omega⟩ hPD hS [0] [1] [1, 0] (wr := pick (wI G q0 n0 y0_5 ++ (wI G q1 n1 xs1)) [1]) (wN := (wI G q0 n0 z_6 ++ (wI G q1 n1 xs1))) rfl rfl rfl rfl rfl hl.1 (Nat.le_of_ble_eq_true rfl) dX4_canFill_78 (fun H locs hPD hS => ?_)
      obtain ⟨y0_7, ey0_7, h⟩ := lvl h
      have hPD : WD G DA (wI G q0 n0 y0_7 ++ (wI G q1 n1 xs1)) H := by rw [ey0_7]; exact hPD
      clear ey0_7
      refine lv_iload hx hb dX4_canFill_81 (lv_at hl 0 rfl) ?_
      refine lv_if_ne (tgt := 91) hx hb dX4_canFill_83 (by decide) (fun cc1 => ?_) (fun cc1 => ?_)
      · have h := (if_neg cc1).symm.trans h
        refine lv_iload hx hb dX4_canFill_91 (lv_at hl 0 rfl) ?_
        obtain ⟨hz, h⟩ := ob h
        obtain rfl := Option.some.inj h
        exact eZ C0 hPD.1 hPD.2 hS rfl (nbool (Classical.not_not.mp hz)) dX4_canFill_93
      · have h := (if_pos cc1).symm.trans h
        refine lv_iload hx hb dX4_canFill_86 (lv_at hl 1 rfl) ?_
        refine lv_if_ne (tgt := 94) hx hb dX4_canFill_88 (by decide) (fun cc1 => ?_) (fun cc1 => ?_)
        · have h := (if_neg cc1).symm.trans h
          refine lv_iinc (v := l5 + 1) (lv' := [(5, .int (l5 + 1)), (7, .int q_4.1), (6, .int (f9_at n0 xs0 l5)), (0, .ref q0), (1, .ref q1), (2, .int p2), (3, .int p3), (4, .int l4)]) hx hb dX4_canFill_94 hl (k := 7) rfl rfl (by decide) rfl (fun ls hl => ?_)
          refine lv_goto (tgt := 18) hx hb dX4_canFill_97 (by decide) ?_
          exact hk18 y0_7 l4 (l5 + 1) h _ _ _ hPD hS (lv_sub hl [3, 4, 5, 6, 7, 0] rfl)
        · have h := (if_pos cc1).symm.trans h
          refine lv_iload hx hb dX4_canFill_91 (lv_at hl 0 rfl) ?_
          obtain ⟨hz, h⟩ := ob h
          obtain rfl := Option.some.inj h
          exact eZ C0 hPD.1 hPD.2 hS rfl (nbool (Classical.not_not.mp hz)) dX4_canFill_93
set_option maxRecDepth 100000 in
set_option maxHeartbeats 4000000 in
theorem ww_f4_canFill_l18 {d : Nat} {rec : Nat → (Nat → Int32) → Nat → (Nat → Int32) → Int32 → Int32 → Option (Int32 × (Nat → Int32))} (hrec0 : ∀ (l : Launch) (G : Gp) (q0 : Nat) (q1 : Nat) (n0 : Nat) (xs0 : Nat → Int32) (n1 : Nat) (xs1 : Nat → Int32) (p2 : Int32) (p3 : Int32) (hn0 : n0 < 2147483648) (hn1 : n1 < 2147483648), ∀ {r : Int32 × (Nat → Int32)}, rec n0 xs0 n1 xs1 p2 p3 = some r → CtrI l yX4_canFill cX4_canFill 8 (some .boolean) (rmGX4_canFill d) G [.ref q0, .ref q1, .int p2, .int p3] (wI G q0 n0 xs0 ++ (wI G q1 n1 xs1)) r.1 (wI G q0 n0 r.2 ++ (wI G q1 n1 xs1))) (hdd : True)  (C0 : Cx cX4_canFill 8 (some .boolean) RX4 p s m args meth c G DA) {q0 : Nat} {q1 : Nat} {n0 : Nat} {n1 : Nat} {xs1 : Nat → Int32} {p2 : Int32} {p3 : Int32} (hn0 : n0 < 2147483648) (hn1 : n1 < 2147483648)  {res : Int32 × (Nat → Int32)}  : ∀ (n : Nat) (xs0 : Nat → Int32) (l4 : Int32) (l5 : Int32), f4_canFill_l18 rec n0 n1 xs1 p2 p3  n xs0 l4 l5 = some res → ∀ (H : Heap) (locs : List Loc) (ls : Array Slot), WD G DA (wI G q0 n0 xs0 ++ (wI G q1 n1 xs1)) H → va_S DA s.heap H locs → lv_has ls 8 [(0, .ref q0), (1, .ref q1), (2, .int p2), (3, .int p3), (4, .int l4), (5, .int l5)] → W p l e (rmGX4_canFill (d + 1)) s m args below meth c H locs 0 0 (MQ below (QI G DA res.1 (wI G q0 n0 res.2 ++ (wI G q1 n1 xs1))) args s 0 0 DA) (F0 m 18 ls []) := by
  intro n
  induction n with
  | zero => intro xs0 l4 l5 h; cases h
  | succ n ih => intro xs0 l4 l5 h; exact ww_f4_canFill_b18 hrec0 hdd C0 hn0 hn1  ih xs0 l4 l5 h
set_option maxRecDepth 100000 in
set_option maxHeartbeats 4000000 in
theorem ko_X4_canFill {d : Nat} {rec : Nat → (Nat → Int32) → Nat → (Nat → Int32) → Int32 → Int32 → Option (Int32 × (Nat → Int32))} (hrec0 : ∀ (l : Launch) (G : Gp) (q0 : Nat) (q1 : Nat) (n0 : Nat) (xs0 : Nat → Int32) (n1 : Nat) (xs1 : Nat → Int32) (p2 : Int32) (p3 : Int32) (hn0 : n0 < 2147483648) (hn1 : n1 < 2147483648), ∀ {r : Int32 × (Nat → Int32)}, rec n0 xs0 n1 xs1 p2 p3 = some r → CtrI l yX4_canFill cX4_canFill 8 (some .boolean) (rmGX4_canFill d) G [.ref q0, .ref q1, .int p2, .int p3] (wI G q0 n0 xs0 ++ (wI G q1 n1 xs1)) r.1 (wI G q0 n0 r.2 ++ (wI G q1 n1 xs1))) (hdd : True) (l : Launch) (G : Gp) (q0 : Nat) (q1 : Nat) (n0 : Nat) (xs0 : Nat → Int32) (n1 : Nat) (xs1 : Nat → Int32) (p2 : Int32) (p3 : Int32) (hn0 : n0 < 2147483648) (hn1 : n1 < 2147483648) : ∀ {r : Int32 × (Nat → Int32)}, f4_canFill rec n0 xs0 n1 xs1 p2 p3 = some r → CtrI l yX4_canFill cX4_canFill 8 (some .boolean) (rmGX4_canFill (d + 1)) G [.ref q0, .ref q1, .int p2, .int p3] (wI G q0 n0 xs0 ++ (wI G q1 n1 xs1)) r.1 (wI G q0 n0 r.2 ++ (wI G q1 n1 xs1)) := by
  intro res h
  refine ctrI_of (cc := cX4_canFill) (maxL := 8) (ret := (some .boolean)) (by decide +kernel) rfl (Nat.le_of_ble_eq_true rfl) (fun p e s m below meth c DA C0 hP hD ls hl => ?_)
  have hPD : WD G DA (wI G q0 n0 xs0 ++ (wI G q1 n1 xs1)) s.heap := ⟨hP, hD⟩
  have hS : va_S DA s.heap s.heap [] := va_S.rf
  have hl : lv_has ls 8 [(0, .ref q0), (1, .ref q1), (2, .int p2), (3, .int p3)] := hl
  obtain ⟨hx, hb, hml, hown, hts⟩ := C0.1
  have hK := C0.2.2.2.1
  unfold f4_canFill at h
  refine lv_iload_n hx hb dX4_canFill_0 rfl (lv_at hl 2 rfl) ?_
  refine lv_if_ne (tgt := 6) hx hb dX4_canFill_1 (by decide) (fun cc1 => ?_) (fun cc1 => ?_)
  · have h := (if_neg cc1).symm.trans h
    refine lv_aload_n hx hb dX4_canFill_6 rfl (lv_at hl 0 rfl) ?_
    refine lv_aload_n hx hb dX4_canFill_7 rfl (lv_at hl 1 rfl) ?_
    refine lv_iload_n hx hb dX4_canFill_8 rfl (lv_at hl 2 rfl) ?_
    refine lv_iload_n hx hb dX4_canFill_9 rfl (lv_at hl 3 rfl) ?_
    obtain ⟨q_1, hq_1, h⟩ := ob2 h
    refine kSI (As := [.ref q0, .ref q1, .int p2, .int p3]) (rest := []) C0 (kt_X4_tightest l G q0 q1 n0 xs0 n1 xs1 p2 p3 hn0 hn1 hq_1) gi_S_X4_44_X4_tightest (n := 4) rfl (by decide +kernel) ⟨rfl, rfl, by simp only [rmGX4_canFill, rmX4_tightest]; omega, by simp only [rmGX4_canFill, rmX4_tightest]; omega⟩ hPD hS [0, 1] [] [0, 1] (wr := pick (wI G q0 n0 xs0 ++ (wI G q1 n1 xs1)) []) (wN := (wI G q0 n0 xs0 ++ (wI G q1 n1 xs1))) rfl rfl rfl rfl rfl hl.1 (Nat.le_of_ble_eq_true rfl) dX4_canFill_10 (fun H locs hPD hS => ?_)
    refine lv_istore (lv' := [(4, .int q_1), (0, .ref q0), (1, .ref q1), (2, .int p2), (3, .int p3)]) hx hb dX4_canFill_13 hl (by decide) rfl (fun ls hl => ?_)
    refine lv_iconst (v := 0) hx hb dX4_canFill_15 (by decide) ?_
    refine lv_istore (lv' := [(5, .int 0), (4, .int q_1), (0, .ref q0), (1, .ref q1), (2, .int p2), (3, .int p3)]) hx hb dX4_canFill_16 hl (by decide) rfl (fun ls hl => ?_)
    exact ww_f4_canFill_l18 hrec0 hdd C0 hn0 hn1 NF xs0 q_1 0 h _ _ _ hPD hS (lv_sub hl [2, 3, 4, 5, 1, 0] rfl)
  · have h := (if_pos cc1).symm.trans h
    refine lv_iconst (v := 1) hx hb dX4_canFill_4 (by decide) ?_
    obtain rfl := Option.some.inj h
    exact eZ C0 hPD.1 hPD.2 hS rfl rfl dX4_canFill_5
set_option maxRecDepth 100000 in
set_option maxHeartbeats 4000000 in
theorem kg_X4_canFill : ∀ d : Nat, (∀ (l : Launch) (G : Gp) (q0 : Nat) (q1 : Nat) (n0 : Nat) (xs0 : Nat → Int32) (n1 : Nat) (xs1 : Nat → Int32) (p2 : Int32) (p3 : Int32) (hn0 : n0 < 2147483648) (hn1 : n1 < 2147483648), ∀ {r : Int32 × (Nat → Int32)}, f4_canFill_rec d n0 xs0 n1 xs1 p2 p3 = some r → CtrI l yX4_canFill cX4_canFill 8 (some .boolean) (rmGX4_canFill d) G [.ref q0, .ref q1, .int p2, .int p3] (wI G q0 n0 xs0 ++ (wI G q1 n1 xs1)) r.1 (wI G q0 n0 r.2 ++ (wI G q1 n1 xs1))) := by
  intro d
  induction d with
  | zero => intro l G _ _ _ _ _ _ _ _ _ _ r h; cases h
  | succ d ih =>
    exact fun l G v0 v1 v2 v3 v4 v5 v6 v7 v8 v9 r h => ko_X4_canFill ih trivial l G v0 v1 v2 v3 v4 v5 v6 v7 v8 v9 h
theorem kt_X4_canFill (d : Nat) : ∀ (l : Launch) (G : Gp) (q0 : Nat) (q1 : Nat) (n0 : Nat) (xs0 : Nat → Int32) (n1 : Nat) (xs1 : Nat → Int32) (p2 : Int32) (p3 : Int32) (hn0 : n0 < 2147483648) (hn1 : n1 < 2147483648), ∀ {r : Int32 × (Nat → Int32)}, f4_canFill_rec d n0 xs0 n1 xs1 p2 p3 = some r → CtrI l yX4_canFill cX4_canFill 8 (some .boolean) (rmGX4_canFill d) G [.ref q0, .ref q1, .int p2, .int p3] (wI G q0 n0 xs0 ++ (wI G q1 n1 xs1)) r.1 (wI G q0 n0 r.2 ++ (wI G q1 n1 xs1)) := (kg_X4_canFill d)
abbrev rmX4_fewest : Room := { frames := 69, cells := 0, slots := 0, locals := 1846 }
set_option maxRecDepth 100000 in
set_option maxHeartbeats 4000000 in
theorem ww_f4_fewest_b26  (C0 : Cx cX4_fewest 3 (some .int) RX4 p s m args meth c G DA) {h0 : Nat} {a0 : Nat → Nat} {h1 : Nat} {a1 : Nat → Nat} {f0 : Nat → Int32} {f1 : Nat → Int32} {A1 : Nat → Nat → Int32}  {k26 : (Nat → Nat → Int32) → Int32 → Option (Int32 × (Nat → Nat → Int32))} {res : Int32 × (Nat → Nat → Int32)}  (hk26 : ∀ (A0 : Nat → Nat → Int32) (l2 : Int32), k26 A0 l2 = some res → ∀ (H : Heap) (locs : List Loc) (ls : Array Slot), WD G DA (wX4 G h0 a0 f0 A0 ++ (wX1 G h1 a1 f1 A1)) H → va_S DA s.heap H locs → lv_has ls 3 [(0, .ref h0), (1, .ref h1), (2, .int l2)] → W p l e rmX4_fewest s m args below meth c H locs 0 0 (MQ below (QI G DA res.1 (wX4 G h0 a0 f0 res.2 ++ (wX1 G h1 a1 f1 A1))) args s 0 0 DA) (F0 m 26 ls [])) : ∀ (A0 : Nat → Nat → Int32) (l2 : Int32), f4_fewest_b26 f0 f1 A1  k26 A0 l2 = some res → ∀ (H : Heap) (locs : List Loc) (ls : Array Slot), WD G DA (wX4 G h0 a0 f0 A0 ++ (wX1 G h1 a1 f1 A1)) H → va_S DA s.heap H locs → lv_has ls 3 [(0, .ref h0), (1, .ref h1), (2, .int l2)] → W p l e rmX4_fewest s m args below meth c H locs 0 0 (MQ below (QI G DA res.1 (wX4 G h0 a0 f0 res.2 ++ (wX1 G h1 a1 f1 A1))) args s 0 0 DA) (F0 m 26 ls []) := by
  obtain ⟨hx, hb, hml, hown, hts⟩ := C0.1
  have hK := C0.2.2.2.1
  intro A0 l2 h _ _ _ hPD hS hl
  unfold f4_fewest_b26 at h
  refine lv_iload_n hx hb dX4_fewest_26 rfl (lv_at hl 2 rfl) ?_
  refine lv_bipush (v := 16) hx hb dX4_fewest_27 (by decide) ?_
  refine lv_icmp_ge (tgt := 57) hx hb dX4_fewest_29 (by decide) (fun cc1 => ?_) (fun cc1 => ?_)
  · have h := (if_pos cc1).symm.trans h
    refine lv_iload_n hx hb dX4_fewest_57 rfl (lv_at hl 2 rfl) ?_
    obtain rfl := Option.some.inj h
    exact eI C0 hPD.1 hPD.2 hS rfl dX4_fewest_58
  · have h := (if_neg cc1).symm.trans h
    refine lv_aload_n hx hb dX4_fewest_32 rfl (lv_at hl 0 rfl) ?_
    refine va_get (D := G.1) (ci := 4) (v := .ref (a0 0)) (C := RX4) (T := TX4) (N := 1) hx hb hts inlX4 hown hK hPD.1 0 rfl rfl 0 (by decide) (hts _ gw_253) (fun _ h9 => h9) rfl dX4_fewest_33 ?_
    refine lv_aload_n hx hb dX4_fewest_36 rfl (lv_at hl 1 rfl) ?_
    refine va_get (D := G.1) (ci := 1) (v := .ref (a1 1)) (C := RX1) (T := TX1) (N := 4) hx hb hts inlX1 hown hK hPD.1 2 rfl rfl 1 (by decide) (hts _ gw_254) (fun _ h9 => h9) rfl dX4_fewest_37 ?_
    refine lv_aload_n hx hb dX4_fewest_40 rfl (lv_at hl 1 rfl) ?_
    refine va_get (D := G.1) (ci := 1) (v := .int (f1 0)) (C := RX1) (T := TX1) (N := 4) hx hb hts inlX1 hown hK hPD.1 2 rfl rfl 0 (by decide) (hts _ gw_255) (fun _ h9 => h9) rfl dX4_fewest_41 ?_
    refine lv_iload_n hx hb dX4_fewest_44 rfl (lv_at hl 2 rfl) ?_
    obtain ⟨q_1, hq_1, h⟩ := ob2 h
    refine kSI (As := [.ref (a0 0), .ref (a1 1), .int (f1 0), .int l2]) (rest := []) C0 (kt_X4_canFill 64 l G (a0 0) (a1 1) 16 (A0 0) 16 (A1 1) (f1 0) l2 (by decide) (by decide) hq_1) gi_S_X4_24_X4_canFill (n := 4) rfl (by decide +kernel) ⟨rfl, rfl, Nat.le_of_ble_eq_true rfl, Nat.le_of_ble_eq_true rfl⟩ hPD hS [1, 3] [0, 2, 4, 5] [0, 4, 1, 5, 2, 3] (wr := pick (wX4 G h0 a0 f0 A0 ++ (wX1 G h1 a1 f1 A1)) [0, 2, 4, 5]) (wN := (wX4 G h0 a0 f0 (updA A0 0 q_1.2) ++ (wX1 G h1 a1 f1 A1))) rfl rfl rfl rfl rfl hl.1 (Nat.le_of_ble_eq_true rfl) dX4_fewest_45 (fun H locs hPD hS => ?_)
    obtain ⟨A0_2, eA0_2, h⟩ := lvl h
    have hPD : WD G DA (wX4 G h0 a0 f0 A0_2 ++ (wX1 G h1 a1 f1 A1)) H := by rw [eA0_2]; exact hPD
    clear eA0_2
    refine lv_if_ne (tgt := 57) hx hb dX4_fewest_48 (by decide) (fun cc1 => ?_) (fun cc1 => ?_)
    · have h := (if_neg cc1).symm.trans h
      refine lv_iload_n hx hb dX4_fewest_57 rfl (lv_at hl 2 rfl) ?_
      obtain rfl := Option.some.inj h
      exact eI C0 hPD.1 hPD.2 hS rfl dX4_fewest_58
    · have h := (if_pos cc1).symm.trans h
      refine lv_iinc (v := l2 + 1) (lv' := [(2, .int (l2 + 1)), (0, .ref h0), (1, .ref h1)]) hx hb dX4_fewest_51 hl (k := 2) rfl rfl (by decide) rfl (fun ls hl => ?_)
      refine lv_goto (tgt := 26) hx hb dX4_fewest_54 (by decide) ?_
      exact hk26 A0_2 (l2 + 1) h _ _ _ hPD hS (lv_sub hl [1, 2, 0] rfl)
set_option maxRecDepth 100000 in
set_option maxHeartbeats 4000000 in
theorem ww_f4_fewest_l26  (C0 : Cx cX4_fewest 3 (some .int) RX4 p s m args meth c G DA) {h0 : Nat} {a0 : Nat → Nat} {h1 : Nat} {a1 : Nat → Nat} {f0 : Nat → Int32} {f1 : Nat → Int32} {A1 : Nat → Nat → Int32}   {res : Int32 × (Nat → Nat → Int32)}  : ∀ (n : Nat) (A0 : Nat → Nat → Int32) (l2 : Int32), f4_fewest_l26 f0 f1 A1  n A0 l2 = some res → ∀ (H : Heap) (locs : List Loc) (ls : Array Slot), WD G DA (wX4 G h0 a0 f0 A0 ++ (wX1 G h1 a1 f1 A1)) H → va_S DA s.heap H locs → lv_has ls 3 [(0, .ref h0), (1, .ref h1), (2, .int l2)] → W p l e rmX4_fewest s m args below meth c H locs 0 0 (MQ below (QI G DA res.1 (wX4 G h0 a0 f0 res.2 ++ (wX1 G h1 a1 f1 A1))) args s 0 0 DA) (F0 m 26 ls []) := by
  intro n
  induction n with
  | zero => intro A0 l2 h; cases h
  | succ n ih => intro A0 l2 h; exact ww_f4_fewest_b26 C0  ih A0 l2 h
set_option maxRecDepth 100000 in
set_option maxHeartbeats 4000000 in
theorem ww_f4_fewest_b2  (C0 : Cx cX4_fewest 3 (some .int) RX4 p s m args meth c G DA) {h0 : Nat} {a0 : Nat → Nat} {h1 : Nat} {a1 : Nat → Nat} {f0 : Nat → Int32} {f1 : Nat → Int32} {A1 : Nat → Nat → Int32}  {k2 : (Nat → Nat → Int32) → Int32 → Option (Int32 × (Nat → Nat → Int32))} {res : Int32 × (Nat → Nat → Int32)}  (hk2 : ∀ (A0 : Nat → Nat → Int32) (l2 : Int32), k2 A0 l2 = some res → ∀ (H : Heap) (locs : List Loc) (ls : Array Slot), WD G DA (wX4 G h0 a0 f0 A0 ++ (wX1 G h1 a1 f1 A1)) H → va_S DA s.heap H locs → lv_has ls 3 [(0, .ref h0), (1, .ref h1), (2, .int l2)] → W p l e rmX4_fewest s m args below meth c H locs 0 0 (MQ below (QI G DA res.1 (wX4 G h0 a0 f0 res.2 ++ (wX1 G h1 a1 f1 A1))) args s 0 0 DA) (F0 m 2 ls [])) : ∀ (A0 : Nat → Nat → Int32) (l2 : Int32), f4_fewest_b2 f0 f1 A1  k2 A0 l2 = some res → ∀ (H : Heap) (locs : List Loc) (ls : Array Slot), WD G DA (wX4 G h0 a0 f0 A0 ++ (wX1 G h1 a1 f1 A1)) H → va_S DA s.heap H locs → lv_has ls 3 [(0, .ref h0), (1, .ref h1), (2, .int l2)] → W p l e rmX4_fewest s m args below meth c H locs 0 0 (MQ below (QI G DA res.1 (wX4 G h0 a0 f0 res.2 ++ (wX1 G h1 a1 f1 A1))) args s 0 0 DA) (F0 m 2 ls []) := by
  obtain ⟨hx, hb, hml, hown, hts⟩ := C0.1
  have hK := C0.2.2.2.1
  intro A0 l2 h _ _ _ hPD hS hl
  unfold f4_fewest_b2 at h
  refine lv_iload_n hx hb dX4_fewest_2 rfl (lv_at hl 2 rfl) ?_
  refine lv_aload_n hx hb dX4_fewest_3 rfl (lv_at hl 0 rfl) ?_
  refine va_get (D := G.1) (ci := 4) (v := .ref (a0 0)) (C := RX4) (T := TX4) (N := 1) hx hb hts inlX4 hown hK hPD.1 0 rfl rfl 0 (by decide) (hts _ gw_253) (fun _ h9 => h9) rfl dX4_fewest_4 ?_
  refine va_alen (v := 16) hx hb hK hPD.1 1 1 rfl rfl rfl dX4_fewest_7 ?_
  refine lv_icmp_ge (tgt := 24) hx hb dX4_fewest_8 (by decide) (fun cc1 => ?_) (fun cc1 => ?_)
  · have h := (if_pos cc1).symm.trans h
    refine lv_iconst (v := 0) hx hb dX4_fewest_24 (by decide) ?_
    refine lv_istore_n (lv' := [(2, .int 0), (0, .ref h0), (1, .ref h1)]) hx hb dX4_fewest_25 rfl hl (by decide) rfl (fun ls hl => ?_)
    exact ww_f4_fewest_l26 C0 NF A0 0 h _ _ _ hPD hS (lv_sub hl [1, 2, 0] rfl)
  · have h := (if_neg cc1).symm.trans h
    refine lv_aload_n hx hb dX4_fewest_11 rfl (lv_at hl 0 rfl) ?_
    refine va_get (D := G.1) (ci := 4) (v := .ref (a0 0)) (C := RX4) (T := TX4) (N := 1) hx hb hts inlX4 hown hK hPD.1 0 rfl rfl 0 (by decide) (hts _ gw_253) (fun _ h9 => h9) rfl dX4_fewest_12 ?_
    refine lv_iload_n hx hb dX4_fewest_15 rfl (lv_at hl 2 rfl) ?_
    refine lv_iconst (v := 0) hx hb dX4_fewest_16 (by decide) ?_
    obtain ⟨hi_3, h⟩ := ob h
    refine va_iast hx hb hK hPD.1 hPD.2 hS 1 1 rfl rfl hi_3 dX4_fewest_17 (fun H locs hP hD hS => ?_)
    obtain ⟨A0_4, eA0_4, h⟩ := lvl h
    have hPD : WD G DA (wX4 G h0 a0 f0 A0_4 ++ (wX1 G h1 a1 f1 A1)) H := by rw [eA0_4]; exact ⟨hP, hD⟩
    clear eA0_4 hP hD
    refine lv_iinc (v := l2 + 1) (lv' := [(2, .int (l2 + 1)), (0, .ref h0), (1, .ref h1)]) hx hb dX4_fewest_18 hl (k := 2) rfl rfl (by decide) rfl (fun ls hl => ?_)
    refine lv_goto (tgt := 2) hx hb dX4_fewest_21 (by decide) ?_
    exact hk2 A0_4 (l2 + 1) h _ _ _ hPD hS (lv_sub hl [1, 2, 0] rfl)
set_option maxRecDepth 100000 in
set_option maxHeartbeats 4000000 in
theorem ww_f4_fewest_l2  (C0 : Cx cX4_fewest 3 (some .int) RX4 p s m args meth c G DA) {h0 : Nat} {a0 : Nat → Nat} {h1 : Nat} {a1 : Nat → Nat} {f0 : Nat → Int32} {f1 : Nat → Int32} {A1 : Nat → Nat → Int32}   {res : Int32 × (Nat → Nat → Int32)}  : ∀ (n : Nat) (A0 : Nat → Nat → Int32) (l2 : Int32), f4_fewest_l2 f0 f1 A1  n A0 l2 = some res → ∀ (H : Heap) (locs : List Loc) (ls : Array Slot), WD G DA (wX4 G h0 a0 f0 A0 ++ (wX1 G h1 a1 f1 A1)) H → va_S DA s.heap H locs → lv_has ls 3 [(0, .ref h0), (1, .ref h1), (2, .int l2)] → W p l e rmX4_fewest s m args below meth c H locs 0 0 (MQ below (QI G DA res.1 (wX4 G h0 a0 f0 res.2 ++ (wX1 G h1 a1 f1 A1))) args s 0 0 DA) (F0 m 2 ls []) := by
  intro n
  induction n with
  | zero => intro A0 l2 h; cases h
  | succ n ih => intro A0 l2 h; exact ww_f4_fewest_b2 C0  ih A0 l2 h
set_option maxRecDepth 100000 in
set_option maxHeartbeats 4000000 in
theorem kt_X4_fewest (l : Launch) (G : Gp) (h0 : Nat) (a0 : Nat → Nat) (h1 : Nat) (a1 : Nat → Nat) (f0 : Nat → Int32) (A0 : Nat → Nat → Int32) (f1 : Nat → Int32) (A1 : Nat → Nat → Int32) : ∀ {r : Int32 × (Nat → Nat → Int32)}, f4_fewest f0 A0 f1 A1 = some r → CtrI l yX4_fewest cX4_fewest 3 (some .int) rmX4_fewest G [.ref h0, .ref h1] (wX4 G h0 a0 f0 A0 ++ (wX1 G h1 a1 f1 A1)) r.1 (wX4 G h0 a0 f0 r.2 ++ (wX1 G h1 a1 f1 A1)) := by
  intro res h
  refine ctrI_of (cc := cX4_fewest) (maxL := 3) (ret := (some .int)) (by decide +kernel) rfl (Nat.le_of_ble_eq_true rfl) (fun p e s m below meth c DA C0 hP hD ls hl => ?_)
  have hPD : WD G DA (wX4 G h0 a0 f0 A0 ++ (wX1 G h1 a1 f1 A1)) s.heap := ⟨hP, hD⟩
  have hS : va_S DA s.heap s.heap [] := va_S.rf
  have hl : lv_has ls 3 [(0, .ref h0), (1, .ref h1)] := hl
  obtain ⟨hx, hb, hml, hown, hts⟩ := C0.1
  have hK := C0.2.2.2.1
  unfold f4_fewest at h
  refine lv_iconst (v := 0) hx hb dX4_fewest_0 (by decide) ?_
  refine lv_istore_n (lv' := [(2, .int 0), (0, .ref h0), (1, .ref h1)]) hx hb dX4_fewest_1 rfl hl (by decide) rfl (fun ls hl => ?_)
  exact ww_f4_fewest_l2 C0 NF A0 0 h _ _ _ hPD hS (lv_sub hl [1, 2, 0] rfl)
abbrev rmX4_leastWatch : Room := { frames := 69, cells := 0, slots := 0, locals := 1846 }
set_option maxRecDepth 100000 in
set_option maxHeartbeats 4000000 in
theorem ww_f4_leastWatch_b3  (C0 : Cx cX4_leastWatch 8 (some .int) RX4 p s m args meth c G DA) {h0 : Nat} {a0 : Nat → Nat} {q1 : Nat} {f0 : Nat → Int32} {n1 : Nat} {xs1 : Nat → Int32} {p1 : Int32} {p2 : Int32} {p3 : Int32} (hn1 : n1 < 2147483648) {k3 : (Nat → Nat → Int32) → Int32 → Option (Int32 × (Nat → Nat → Int32))} {res : Int32 × (Nat → Nat → Int32)}  (hk3 : ∀ (A0 : Nat → Nat → Int32) (l5 : Int32), k3 A0 l5 = some res → ∀ (H : Heap) (locs : List Loc) (ls : Array Slot), WD G DA (wX4 G h0 a0 f0 A0 ++ (wI G q1 n1 xs1)) H → va_S DA s.heap H locs → lv_has ls 8 [(0, .ref h0), (1, .int p1), (2, .int p2), (3, .int p3), (4, .ref q1), (5, .int l5)] → W p l e rmX4_leastWatch s m args below meth c H locs 0 0 (MQ below (QI G DA res.1 (wX4 G h0 a0 f0 res.2 ++ (wI G q1 n1 xs1))) args s 0 0 DA) (F0 m 3 ls [])) : ∀ (A0 : Nat → Nat → Int32) (l5 : Int32), f4_leastWatch_b3 f0 n1 xs1 p1 p2 p3  k3 A0 l5 = some res → ∀ (H : Heap) (locs : List Loc) (ls : Array Slot), WD G DA (wX4 G h0 a0 f0 A0 ++ (wI G q1 n1 xs1)) H → va_S DA s.heap H locs → lv_has ls 8 [(0, .ref h0), (1, .int p1), (2, .int p2), (3, .int p3), (4, .ref q1), (5, .int l5)] → W p l e rmX4_leastWatch s m args below meth c H locs 0 0 (MQ below (QI G DA res.1 (wX4 G h0 a0 f0 res.2 ++ (wI G q1 n1 xs1))) args s 0 0 DA) (F0 m 3 ls []) := by
  obtain ⟨hx, hb, hml, hown, hts⟩ := C0.1
  have hK := C0.2.2.2.1
  intro A0 l5 h _ _ _ hPD hS hl
  unfold f4_leastWatch_b3 at h
  refine lv_iload hx hb dX4_leastWatch_3 (lv_at hl 5 rfl) ?_
  refine lv_iload_n hx hb dX4_leastWatch_5 rfl (lv_at hl 3 rfl) ?_
  refine lv_icmp_ge (tgt := 85) hx hb dX4_leastWatch_6 (by decide) (fun cc1 => ?_) (fun cc1 => ?_)
  · have h := (if_pos cc1).symm.trans h
    refine lv_iconst (v := (-1)) hx hb dX4_leastWatch_85 (by decide) ?_
    obtain rfl := Option.some.inj h
    exact eI C0 hPD.1 hPD.2 hS rfl dX4_leastWatch_86
  · have h := (if_neg cc1).symm.trans h
    refine lv_aload_n hx hb dX4_leastWatch_9 rfl (lv_at hl 0 rfl) ?_
    refine va_get (D := G.1) (ci := 4) (v := .ref (a0 0)) (C := RX4) (T := TX4) (N := 1) hx hb hts inlX4 hown hK hPD.1 0 rfl rfl 0 (by decide) (hts _ gw_253) (fun _ h9 => h9) rfl dX4_leastWatch_10 ?_
    refine lv_iload hx hb dX4_leastWatch_13 (lv_at hl 5 rfl) ?_
    refine kNI (As := [.ref (a0 0), .int l5]) (rest := []) C0 (kt_X9_at l G (a0 0) 16 (A0 0) l5 (by decide)) gi_U_X9_at (host := "IdleCrimes") (index := 36) (List.mem_of_getElem? (i := 41) rfl) gw_6 gw_7 (n := 2) rfl (by decide +kernel) ⟨rfl, rfl, Nat.le_of_ble_eq_true rfl, Nat.le_of_ble_eq_true rfl⟩ hPD hS [1] [0, 2] [0, 2, 1] (wr := pick (wX4 G h0 a0 f0 A0 ++ (wI G q1 n1 xs1)) [0, 2]) (wN := (wX4 G h0 a0 f0 A0 ++ (wI G q1 n1 xs1))) rfl rfl rfl rfl rfl hl.1 (Nat.le_of_ble_eq_true rfl) dX4_leastWatch_15 (fun H locs hPD hS => ?_)
    refine lv_istore (lv' := [(6, .int (f9_at 16 (A0 0) l5)), (0, .ref h0), (1, .int p1), (2, .int p2), (3, .int p3), (4, .ref q1), (5, .int l5)]) hx hb dX4_leastWatch_18 hl (by decide) rfl (fun ls hl => ?_)
    refine lv_iload hx hb dX4_leastWatch_20 (lv_at hl 0 rfl) ?_
    refine lv_aload hx hb dX4_leastWatch_22 (lv_at hl 5 rfl) ?_
    refine lv_iload_n hx hb dX4_leastWatch_24 rfl (lv_at hl 2 rfl) ?_
    refine kNI (As := [.ref q1, .int p1]) (rest := [.int (f9_at 16 (A0 0) l5)]) C0 (kt_X9_at l G q1 n1 xs1 p1 hn1) gi_U_X9_at (host := "IdleCrimes") (index := 36) (List.mem_of_getElem? (i := 41) rfl) gw_6 gw_7 (n := 2) rfl (by decide +kernel) ⟨rfl, rfl, Nat.le_of_ble_eq_true rfl, Nat.le_of_ble_eq_true rfl⟩ hPD hS [2] [0, 1] [0, 1, 2] (wr := pick (wX4 G h0 a0 f0 A0 ++ (wI G q1 n1 xs1)) [0, 1]) (wN := (wX4 G h0 a0 f0 A0 ++ (wI G q1 n1 xs1))) rfl rfl rfl rfl rfl hl.1 (Nat.le_of_ble_eq_true rfl) dX4_leastWatch_25 (fun H locs hPD hS => ?_)
    refine lv_iand hx hb dX4_leastWatch_28 ?_
    refine lv_if_ne (tgt := 79) hx hb dX4_leastWatch_29 (by decide) (fun cc1 => ?_) (fun cc1 => ?_)
    · have h := (if_neg cc1).symm.trans h
      refine lv_iinc (v := l5 + 1) (lv' := [(5, .int (l5 + 1)), (6, .int (f9_at 16 (A0 0) l5)), (0, .ref h0), (1, .int p1), (2, .int p2), (3, .int p3), (4, .ref q1)]) hx hb dX4_leastWatch_79 hl (k := 6) rfl rfl (by decide) rfl (fun ls hl => ?_)
      refine lv_goto (tgt := 3) hx hb dX4_leastWatch_82 (by decide) ?_
      exact hk3 A0 (l5 + 1) h _ _ _ hPD hS (lv_sub hl [2, 3, 4, 5, 6, 0] rfl)
    · have h := (if_pos cc1).symm.trans h
      refine lv_aload_n hx hb dX4_leastWatch_32 rfl (lv_at hl 1 rfl) ?_
      refine va_get (D := G.1) (ci := 4) (v := .ref (a0 0)) (C := RX4) (T := TX4) (N := 1) hx hb hts inlX4 hown hK hPD.1 0 rfl rfl 0 (by decide) (hts _ gw_253) (fun _ h9 => h9) rfl dX4_leastWatch_33 ?_
      refine lv_iload hx hb dX4_leastWatch_36 (lv_at hl 6 rfl) ?_
      refine lv_iload hx hb dX4_leastWatch_38 (lv_at hl 0 rfl) ?_
      refine lv_iconst (v := 1) hx hb dX4_leastWatch_40 (by decide) ?_
      refine lv_iload_n hx hb dX4_leastWatch_41 rfl (lv_at hl 2 rfl) ?_
      refine lv_ishl hx hb dX4_leastWatch_42 ?_
      refine lv_ior hx hb dX4_leastWatch_43 ?_
      obtain ⟨z_1, ez_1, h⟩ := lvl h
      have kc := kt_X9_put l G (a0 0) 16 (A0 0) l5 ((f9_at 16 (A0 0) l5) ||| (shl 1 p1)) (by decide)
      rw [← ez_1] at kc
      clear ez_1
      refine kNV (As := [.ref (a0 0), .int l5, .int ((f9_at 16 (A0 0) l5) ||| (shl 1 p1))]) (rest := []) C0 (kc) gi_U_X9_put (host := "IdleCrimes") (index := 40) (List.mem_of_getElem? (i := 42) rfl) gw_6 gw_19 (n := 3) rfl (by decide +kernel) ⟨rfl, rfl, Nat.le_of_ble_eq_true rfl, Nat.le_of_ble_eq_true rfl⟩ hPD hS [1] [0, 2] [0, 2, 1] (wr := pick (wX4 G h0 a0 f0 A0 ++ (wI G q1 n1 xs1)) [0, 2]) (wN := (wX4 G h0 a0 f0 (updA A0 0 z_1) ++ (wI G q1 n1 xs1))) rfl rfl rfl rfl rfl hl.1 (Nat.le_of_ble_eq_true rfl) dX4_leastWatch_44 (fun H locs hPD hS => ?_)
      obtain ⟨A0_2, eA0_2, h⟩ := lvl h
      have hPD : WD G DA (wX4 G h0 a0 f0 A0_2 ++ (wI G q1 n1 xs1)) H := by rw [eA0_2]; exact hPD
      clear eA0_2
      refine lv_aload_n hx hb dX4_leastWatch_47 rfl (lv_at hl 1 rfl) ?_
      refine va_get (D := G.1) (ci := 4) (v := .ref (a0 0)) (C := RX4) (T := TX4) (N := 1) hx hb hts inlX4 hown hK hPD.1 0 rfl rfl 0 (by decide) (hts _ gw_253) (fun _ h9 => h9) rfl dX4_leastWatch_48 ?_
      refine lv_aload hx hb dX4_leastWatch_51 (lv_at hl 5 rfl) ?_
      refine lv_iload_n hx hb dX4_leastWatch_53 rfl (lv_at hl 3 rfl) ?_
      refine lv_iload_n hx hb dX4_leastWatch_54 rfl (lv_at hl 4 rfl) ?_
      obtain ⟨q_3, hq_3, h⟩ := ob2 h
      refine kSI (As := [.ref (a0 0), .ref q1, .int p2, .int p3]) (rest := []) C0 (kt_X4_canFill 64 l G (a0 0) q1 16 (A0_2 0) n1 xs1 p2 p3 (by decide) hn1 hq_3) gi_S_X4_24_X4_canFill (n := 4) rfl (by decide +kernel) ⟨rfl, rfl, Nat.le_of_ble_eq_true rfl, Nat.le_of_ble_eq_true rfl⟩ hPD hS [1, 2] [0] [0, 1, 2] (wr := pick (wX4 G h0 a0 f0 A0_2 ++ (wI G q1 n1 xs1)) [0]) (wN := (wX4 G h0 a0 f0 (updA A0_2 0 q_3.2) ++ (wI G q1 n1 xs1))) rfl rfl rfl rfl rfl hl.1 (Nat.le_of_ble_eq_true rfl) dX4_leastWatch_55 (fun H locs hPD hS => ?_)
      obtain ⟨A0_4, eA0_4, h⟩ := lvl h
      have hPD : WD G DA (wX4 G h0 a0 f0 A0_4 ++ (wI G q1 n1 xs1)) H := by rw [eA0_4]; exact hPD
      clear eA0_4
      refine lv_istore (lv' := [(7, .int q_3.1), (6, .int (f9_at 16 (A0 0) l5)), (0, .ref h0), (1, .int p1), (2, .int p2), (3, .int p3), (4, .ref q1), (5, .int l5)]) hx hb dX4_leastWatch_58 hl (by decide) rfl (fun ls hl => ?_)
      refine lv_aload_n hx hb dX4_leastWatch_60 rfl (lv_at hl 2 rfl) ?_
      refine va_get (D := G.1) (ci := 4) (v := .ref (a0 0)) (C := RX4) (T := TX4) (N := 1) hx hb hts inlX4 hown hK hPD.1 0 rfl rfl 0 (by decide) (hts _ gw_253) (fun _ h9 => h9) rfl dX4_leastWatch_61 ?_
      refine lv_iload hx hb dX4_leastWatch_64 (lv_at hl 7 rfl) ?_
      refine lv_iload hx hb dX4_leastWatch_66 (lv_at hl 1 rfl) ?_
      obtain ⟨z_5, ez_5, h⟩ := lvl h
      have kc := kt_X9_put l G (a0 0) 16 (A0_4 0) l5 (f9_at 16 (A0 0) l5) (by decide)
      rw [← ez_5] at kc
      clear ez_5
      refine kNV (As := [.ref (a0 0), .int l5, .int (f9_at 16 (A0 0) l5)]) (rest := []) C0 (kc) gi_U_X9_put (host := "IdleCrimes") (index := 40) (List.mem_of_getElem? (i := 42) rfl) gw_6 gw_19 (n := 3) rfl (by decide +kernel) ⟨rfl, rfl, Nat.le_of_ble_eq_true rfl, Nat.le_of_ble_eq_true rfl⟩ hPD hS [1] [0, 2] [0, 2, 1] (wr := pick (wX4 G h0 a0 f0 A0_4 ++ (wI G q1 n1 xs1)) [0, 2]) (wN := (wX4 G h0 a0 f0 (updA A0_4 0 z_5) ++ (wI G q1 n1 xs1))) rfl rfl rfl rfl rfl hl.1 (Nat.le_of_ble_eq_true rfl) dX4_leastWatch_68 (fun H locs hPD hS => ?_)
      obtain ⟨A0_6, eA0_6, h⟩ := lvl h
      have hPD : WD G DA (wX4 G h0 a0 f0 A0_6 ++ (wI G q1 n1 xs1)) H := by rw [eA0_6]; exact hPD
      clear eA0_6
      refine lv_iload hx hb dX4_leastWatch_71 (lv_at hl 0 rfl) ?_
      refine lv_if_eq (tgt := 79) hx hb dX4_leastWatch_73 (by decide) (fun cc1 => ?_) (fun cc1 => ?_)
      · have h := (if_pos cc1).symm.trans h
        refine lv_iinc (v := l5 + 1) (lv' := [(5, .int (l5 + 1)), (7, .int q_3.1), (6, .int (f9_at 16 (A0 0) l5)), (0, .ref h0), (1, .int p1), (2, .int p2), (3, .int p3), (4, .ref q1)]) hx hb dX4_leastWatch_79 hl (k := 7) rfl rfl (by decide) rfl (fun ls hl => ?_)
        refine lv_goto (tgt := 3) hx hb dX4_leastWatch_82 (by decide) ?_
        exact hk3 A0_6 (l5 + 1) h _ _ _ hPD hS (lv_sub hl [3, 4, 5, 6, 7, 0] rfl)
      · have h := (if_neg cc1).symm.trans h
        refine lv_iload hx hb dX4_leastWatch_76 (lv_at hl 7 rfl) ?_
        obtain rfl := Option.some.inj h
        exact eI C0 hPD.1 hPD.2 hS rfl dX4_leastWatch_78
set_option maxRecDepth 100000 in
set_option maxHeartbeats 4000000 in
theorem ww_f4_leastWatch_l3  (C0 : Cx cX4_leastWatch 8 (some .int) RX4 p s m args meth c G DA) {h0 : Nat} {a0 : Nat → Nat} {q1 : Nat} {f0 : Nat → Int32} {n1 : Nat} {xs1 : Nat → Int32} {p1 : Int32} {p2 : Int32} {p3 : Int32} (hn1 : n1 < 2147483648)  {res : Int32 × (Nat → Nat → Int32)}  : ∀ (n : Nat) (A0 : Nat → Nat → Int32) (l5 : Int32), f4_leastWatch_l3 f0 n1 xs1 p1 p2 p3  n A0 l5 = some res → ∀ (H : Heap) (locs : List Loc) (ls : Array Slot), WD G DA (wX4 G h0 a0 f0 A0 ++ (wI G q1 n1 xs1)) H → va_S DA s.heap H locs → lv_has ls 8 [(0, .ref h0), (1, .int p1), (2, .int p2), (3, .int p3), (4, .ref q1), (5, .int l5)] → W p l e rmX4_leastWatch s m args below meth c H locs 0 0 (MQ below (QI G DA res.1 (wX4 G h0 a0 f0 res.2 ++ (wI G q1 n1 xs1))) args s 0 0 DA) (F0 m 3 ls []) := by
  intro n
  induction n with
  | zero => intro A0 l5 h; cases h
  | succ n ih => intro A0 l5 h; exact ww_f4_leastWatch_b3 C0 hn1  ih A0 l5 h
set_option maxRecDepth 100000 in
set_option maxHeartbeats 4000000 in
theorem kt_X4_leastWatch (l : Launch) (G : Gp) (h0 : Nat) (a0 : Nat → Nat) (q1 : Nat) (f0 : Nat → Int32) (A0 : Nat → Nat → Int32) (n1 : Nat) (xs1 : Nat → Int32) (p1 : Int32) (p2 : Int32) (p3 : Int32) (hn1 : n1 < 2147483648) : ∀ {r : Int32 × (Nat → Nat → Int32)}, f4_leastWatch f0 A0 n1 xs1 p1 p2 p3 = some r → CtrI l yX4_leastWatch cX4_leastWatch 8 (some .int) rmX4_leastWatch G [.ref h0, .int p1, .int p2, .int p3, .ref q1] (wX4 G h0 a0 f0 A0 ++ (wI G q1 n1 xs1)) r.1 (wX4 G h0 a0 f0 r.2 ++ (wI G q1 n1 xs1)) := by
  intro res h
  refine ctrI_of (cc := cX4_leastWatch) (maxL := 8) (ret := (some .int)) (by decide +kernel) rfl (Nat.le_of_ble_eq_true rfl) (fun p e s m below meth c DA C0 hP hD ls hl => ?_)
  have hPD : WD G DA (wX4 G h0 a0 f0 A0 ++ (wI G q1 n1 xs1)) s.heap := ⟨hP, hD⟩
  have hS : va_S DA s.heap s.heap [] := va_S.rf
  have hl : lv_has ls 8 [(0, .ref h0), (1, .int p1), (2, .int p2), (3, .int p3), (4, .ref q1)] := hl
  obtain ⟨hx, hb, hml, hown, hts⟩ := C0.1
  have hK := C0.2.2.2.1
  unfold f4_leastWatch at h
  refine lv_iconst (v := 0) hx hb dX4_leastWatch_0 (by decide) ?_
  refine lv_istore (lv' := [(5, .int 0), (0, .ref h0), (1, .int p1), (2, .int p2), (3, .int p3), (4, .ref q1)]) hx hb dX4_leastWatch_1 hl (by decide) rfl (fun ls hl => ?_)
  exact ww_f4_leastWatch_l3 C0 hn1 NF A0 0 h _ _ _ hPD hS (lv_sub hl [1, 2, 3, 4, 5, 0] rfl)
abbrev rmX4_watchOf : Room := { frames := 70, cells := 0, slots := 0, locals := 1873 }
set_option maxRecDepth 100000 in
set_option maxHeartbeats 4000000 in
theorem ww_f4_watchOf_b12  (C0 : Cx cX4_watchOf 7 (some .int) RX4 p s m args meth c G DA) {h0 : Nat} {a0 : Nat → Nat} {h1 : Nat} {a1 : Nat → Nat} {f0 : Nat → Int32} {f1 : Nat → Int32} {A1 : Nat → Nat → Int32} {p1 : Int32} {p2 : Int32}  {k12 : (Nat → Nat → Int32) → Int32 → Int32 → Int32 → Option (Int32 × (Nat → Nat → Int32))} {res : Int32 × (Nat → Nat → Int32)}  (hk12 : ∀ (A0 : Nat → Nat → Int32) (l4 : Int32) (l5 : Int32) (l6 : Int32), k12 A0 l4 l5 l6 = some res → ∀ (H : Heap) (locs : List Loc) (ls : Array Slot), WD G DA (wX4 G h0 a0 f0 A0 ++ (wX1 G h1 a1 f1 A1)) H → va_S DA s.heap H locs → lv_has ls 7 [(0, .ref h0), (1, .int p1), (2, .int p2), (3, .ref h1), (4, .int l4), (5, .int l5), (6, .int l6)] → W p l e rmX4_watchOf s m args below meth c H locs 0 0 (MQ below (QI G DA res.1 (wX4 G h0 a0 f0 res.2 ++ (wX1 G h1 a1 f1 A1))) args s 0 0 DA) (F0 m 12 ls [])) : ∀ (A0 : Nat → Nat → Int32) (l4 : Int32) (l5 : Int32) (l6 : Int32), f4_watchOf_b12 f0 f1 A1 p1 p2  k12 A0 l4 l5 l6 = some res → ∀ (H : Heap) (locs : List Loc) (ls : Array Slot), WD G DA (wX4 G h0 a0 f0 A0 ++ (wX1 G h1 a1 f1 A1)) H → va_S DA s.heap H locs → lv_has ls 7 [(0, .ref h0), (1, .int p1), (2, .int p2), (3, .ref h1), (4, .int l4), (5, .int l5), (6, .int l6)] → W p l e rmX4_watchOf s m args below meth c H locs 0 0 (MQ below (QI G DA res.1 (wX4 G h0 a0 f0 res.2 ++ (wX1 G h1 a1 f1 A1))) args s 0 0 DA) (F0 m 12 ls []) := by
  obtain ⟨hx, hb, hml, hown, hts⟩ := C0.1
  have hK := C0.2.2.2.1
  intro A0 l4 l5 l6 h _ _ _ hPD hS hl
  unfold f4_watchOf_b12 at h
  refine lv_iload hx hb dX4_watchOf_12 (lv_at hl 6 rfl) ?_
  refine lv_iload_n hx hb dX4_watchOf_14 rfl (lv_at hl 1 rfl) ?_
  refine lv_icmp_gt (tgt := 90) hx hb dX4_watchOf_15 (by decide) (fun cc1 => ?_) (fun cc1 => ?_)
  · have h := (if_pos cc1).symm.trans h
    refine lv_iload hx hb dX4_watchOf_90 (lv_at hl 5 rfl) ?_
    obtain rfl := Option.some.inj h
    exact eI C0 hPD.1 hPD.2 hS rfl dX4_watchOf_92
  · have h := (if_neg cc1).symm.trans h
    refine lv_iload hx hb dX4_watchOf_18 (lv_at hl 6 rfl) ?_
    refine lv_bipush (v := 16) hx hb dX4_watchOf_20 (by decide) ?_
    refine lv_icmp_ge (tgt := 90) hx hb dX4_watchOf_22 (by decide) (fun cc1 => ?_) (fun cc1 => ?_)
    · have h := (if_pos cc1).symm.trans h
      refine lv_iload hx hb dX4_watchOf_90 (lv_at hl 5 rfl) ?_
      obtain rfl := Option.some.inj h
      exact eI C0 hPD.1 hPD.2 hS rfl dX4_watchOf_92
    · have h := (if_neg cc1).symm.trans h
      refine lv_iload hx hb dX4_watchOf_25 (lv_at hl 4 rfl) ?_
      refine lv_iload hx hb dX4_watchOf_27 (lv_at hl 6 rfl) ?_
      refine kNI (As := [.int l4, .int l6]) (rest := []) C0 (kt_X9_has l G  l4 l6) gi_U_X9_has (host := "IdleCrimes") (index := 28) (List.mem_of_getElem? (i := 40) rfl) gw_6 gw_74 (n := 2) rfl (by decide +kernel) ⟨rfl, rfl, Nat.le_of_ble_eq_true rfl, Nat.le_of_ble_eq_true rfl⟩ hPD hS [] [0, 1, 2, 3, 4, 5] [0, 1, 2, 3, 4, 5] (wr := (wX4 G h0 a0 f0 A0 ++ (wX1 G h1 a1 f1 A1))) (wN := (wX4 G h0 a0 f0 A0 ++ (wX1 G h1 a1 f1 A1))) rfl rfl rfl rfl rfl hl.1 (Nat.le_of_ble_eq_true rfl) dX4_watchOf_29 (fun H locs hPD hS => ?_)
      refine lv_if_eq (tgt := 84) hx hb dX4_watchOf_32 (by decide) (fun cc1 => ?_) (fun cc1 => ?_)
      · have h := (if_pos cc1).symm.trans h
        refine lv_iinc (v := l6 + 1) (lv' := [(6, .int (l6 + 1)), (0, .ref h0), (1, .int p1), (2, .int p2), (3, .ref h1), (4, .int l4), (5, .int l5)]) hx hb dX4_watchOf_84 hl (k := 6) rfl rfl (by decide) rfl (fun ls hl => ?_)
        refine lv_goto (tgt := 12) hx hb dX4_watchOf_87 (by decide) ?_
        exact hk12 A0 l4 l5 (l6 + 1) h _ _ _ hPD hS (lv_sub hl [1, 2, 3, 4, 5, 6, 0] rfl)
      · have h := (if_neg cc1).symm.trans h
        refine lv_iload hx hb dX4_watchOf_35 (lv_at hl 4 rfl) ?_
        refine lv_iconst (v := 1) hx hb dX4_watchOf_37 (by decide) ?_
        refine lv_iload hx hb dX4_watchOf_38 (lv_at hl 6 rfl) ?_
        refine lv_ishl hx hb dX4_watchOf_40 ?_
        refine lv_iconst (v := (-1)) hx hb dX4_watchOf_41 (by decide) ?_
        refine lv_ixor hx hb dX4_watchOf_42 ?_
        refine lv_iand hx hb dX4_watchOf_43 ?_
        refine lv_istore (lv' := [(4, .int (l4 &&& ((shl 1 l6) ^^^ (-1)))), (0, .ref h0), (1, .int p1), (2, .int p2), (3, .ref h1), (5, .int l5), (6, .int l6)]) hx hb dX4_watchOf_44 hl (by decide) rfl (fun ls hl => ?_)
        refine lv_aload_n hx hb dX4_watchOf_46 rfl (lv_at hl 1 rfl) ?_
        refine lv_iload hx hb dX4_watchOf_47 (lv_at hl 6 rfl) ?_
        refine lv_iload hx hb dX4_watchOf_49 (lv_at hl 0 rfl) ?_
        refine lv_iload_n hx hb dX4_watchOf_51 rfl (lv_at hl 3 rfl) ?_
        refine lv_aload_n hx hb dX4_watchOf_52 rfl (lv_at hl 4 rfl) ?_
        refine va_get (D := G.1) (ci := 1) (v := .ref (a1 1)) (C := RX1) (T := TX1) (N := 4) hx hb hts inlX1 hown hK hPD.1 2 rfl rfl 1 (by decide) (hts _ gw_254) (fun _ h9 => h9) rfl dX4_watchOf_53 ?_
        obtain ⟨q_1, hq_1, h⟩ := ob2 h
        refine kVI (As := [.int l6, .int (l4 &&& ((shl 1 l6) ^^^ (-1))), .int p2, .ref (a1 1)]) (rest := []) C0 (kt_X4_leastWatch l G h0 a0 (a1 1) f0 A0 16 (A1 1) l6 (l4 &&& ((shl 1 l6) ^^^ (-1))) p2 (by decide) hq_1) gi_V_X4_32_X4_leastWatch (n := 4) rfl (by decide +kernel) rfl ⟨rfl, rfl, Nat.le_of_ble_eq_true rfl, Nat.le_of_ble_eq_true rfl⟩ hPD hS 0 4 rfl rfl rfl [0, 1, 3] [2, 4, 5] [3, 4, 0, 5, 1, 2] (wr := pick (wX4 G h0 a0 f0 A0 ++ (wX1 G h1 a1 f1 A1)) [2, 4, 5]) (wN := (wX4 G h0 a0 f0 q_1.2 ++ (wX1 G h1 a1 f1 A1))) rfl rfl rfl rfl rfl hl.1 (Nat.le_of_ble_eq_true rfl) dX4_watchOf_56 (fun H locs hPD hS => ?_)
        refine lv_istore (lv' := [(5, .int q_1.1), (4, .int (l4 &&& ((shl 1 l6) ^^^ (-1)))), (0, .ref h0), (1, .int p1), (2, .int p2), (3, .ref h1), (6, .int l6)]) hx hb dX4_watchOf_59 hl (by decide) rfl (fun ls hl => ?_)
        refine lv_aload_n hx hb dX4_watchOf_61 rfl (lv_at hl 2 rfl) ?_
        refine va_get (D := G.1) (ci := 4) (v := .ref (a0 0)) (C := RX4) (T := TX4) (N := 1) hx hb hts inlX4 hown hK hPD.1 0 rfl rfl 0 (by decide) (hts _ gw_253) (fun _ h9 => h9) rfl dX4_watchOf_62 ?_
        refine lv_iload hx hb dX4_watchOf_65 (lv_at hl 0 rfl) ?_
        refine lv_aload_n hx hb dX4_watchOf_67 rfl (lv_at hl 2 rfl) ?_
        refine va_get (D := G.1) (ci := 4) (v := .ref (a0 0)) (C := RX4) (T := TX4) (N := 1) hx hb hts inlX4 hown hK hPD.1 0 rfl rfl 0 (by decide) (hts _ gw_253) (fun _ h9 => h9) rfl dX4_watchOf_68 ?_
        refine lv_iload hx hb dX4_watchOf_71 (lv_at hl 0 rfl) ?_
        refine kNI (As := [.ref (a0 0), .int q_1.1]) (rest := [.int q_1.1, .ref (a0 0)]) C0 (kt_X9_at l G (a0 0) 16 (q_1.2 0) q_1.1 (by decide)) gi_U_X9_at (host := "IdleCrimes") (index := 36) (List.mem_of_getElem? (i := 41) rfl) gw_6 gw_7 (n := 2) rfl (by decide +kernel) ⟨rfl, rfl, Nat.le_of_ble_eq_true rfl, Nat.le_of_ble_eq_true rfl⟩ hPD hS [1] [0, 2, 3, 4, 5] [0, 5, 1, 2, 3, 4] (wr := pick (wX4 G h0 a0 f0 q_1.2 ++ (wX1 G h1 a1 f1 A1)) [0, 2, 3, 4, 5]) (wN := (wX4 G h0 a0 f0 q_1.2 ++ (wX1 G h1 a1 f1 A1))) rfl rfl rfl rfl rfl hl.1 (Nat.le_of_ble_eq_true rfl) dX4_watchOf_73 (fun H locs hPD hS => ?_)
        refine lv_iconst (v := 1) hx hb dX4_watchOf_76 (by decide) ?_
        refine lv_iload hx hb dX4_watchOf_77 (lv_at hl 6 rfl) ?_
        refine lv_ishl hx hb dX4_watchOf_79 ?_
        refine lv_ior hx hb dX4_watchOf_80 ?_
        obtain ⟨z_2, ez_2, h⟩ := lvl h
        have kc := kt_X9_put l G (a0 0) 16 (q_1.2 0) q_1.1 ((f9_at 16 (q_1.2 0) q_1.1) ||| (shl 1 l6)) (by decide)
        rw [← ez_2] at kc
        clear ez_2
        refine kNV (As := [.ref (a0 0), .int q_1.1, .int ((f9_at 16 (q_1.2 0) q_1.1) ||| (shl 1 l6))]) (rest := []) C0 (kc) gi_U_X9_put (host := "IdleCrimes") (index := 40) (List.mem_of_getElem? (i := 42) rfl) gw_6 gw_19 (n := 3) rfl (by decide +kernel) ⟨rfl, rfl, Nat.le_of_ble_eq_true rfl, Nat.le_of_ble_eq_true rfl⟩ hPD hS [1] [0, 2, 3, 4, 5] [0, 5, 1, 2, 3, 4] (wr := pick (wX4 G h0 a0 f0 q_1.2 ++ (wX1 G h1 a1 f1 A1)) [0, 2, 3, 4, 5]) (wN := (wX4 G h0 a0 f0 (updA q_1.2 0 z_2) ++ (wX1 G h1 a1 f1 A1))) rfl rfl rfl rfl rfl hl.1 (Nat.le_of_ble_eq_true rfl) dX4_watchOf_81 (fun H locs hPD hS => ?_)
        obtain ⟨A0_3, eA0_3, h⟩ := lvl h
        have hPD : WD G DA (wX4 G h0 a0 f0 A0_3 ++ (wX1 G h1 a1 f1 A1)) H := by rw [eA0_3]; exact hPD
        clear eA0_3
        refine lv_iinc (v := l6 + 1) (lv' := [(6, .int (l6 + 1)), (5, .int q_1.1), (4, .int (l4 &&& ((shl 1 l6) ^^^ (-1)))), (0, .ref h0), (1, .int p1), (2, .int p2), (3, .ref h1)]) hx hb dX4_watchOf_84 hl (k := 6) rfl rfl (by decide) rfl (fun ls hl => ?_)
        refine lv_goto (tgt := 12) hx hb dX4_watchOf_87 (by decide) ?_
        exact hk12 A0_3 (l4 &&& ((shl 1 l6) ^^^ (-1))) q_1.1 (l6 + 1) h _ _ _ hPD hS (lv_sub hl [3, 4, 5, 6, 2, 1, 0] rfl)
end WALK
