section WALK
variable {p : Program} {l : Launch} {e : Env} {s : State} {m : MethodId} {args : Array Value} {below : List Frame} {meth : Method} {c : Code} {G : Gp} {DA : Nat → Prop}
set_option maxRecDepth 100000 in
set_option maxHeartbeats 4000000 in
theorem ww_f5_walk_l2  (C0 : Cx cX5_walk 6 none RX5 p s m args meth c G DA) {h0 : Nat} {a0 : Nat → Nat} {h1 : Nat} {a1 : Nat → Nat} {q2 : Nat} {g2 : Nat → Nat} {aB2 : Nat → Nat → Nat} {f0 : Nat → Int32} {f1 : Nat → Int32} {A1 : Nat → Nat → Int32} {fB2 : Nat → Nat → Int32} {AB2 : Nat → Nat → Nat → Int32}   {res : (Nat → Nat → Int32)}  : ∀ (n : Nat) (A0 : Nat → Nat → Int32) (l3 : Int32), f5_walk_l2 f0 f1 A1 fB2 AB2  n A0 l3 = some res → ∀ (H : Heap) (locs : List Loc) (ls : Array Slot), WD G DA (wX6 G h0 a0 f0 A0 ++ (wX1 G h1 a1 f1 A1 ++ (wB G q2 g2 aB2 fB2 AB2))) H → va_S DA s.heap H locs → lv_has ls 6 [(0, .ref h0), (1, .ref h1), (2, .ref q2), (3, .int l3)] → W p l e rmX5_walk s m args below meth c H locs 0 0 (MQ below (QV G DA (wX6 G h0 a0 f0 res ++ (wX1 G h1 a1 f1 A1 ++ (wB G q2 g2 aB2 fB2 AB2)))) args s 0 0 DA) (F0 m 2 ls []) := by
  intro n
  induction n with
  | zero => intro A0 l3 h; cases h
  | succ n ih => intro A0 l3 h; exact ww_f5_walk_b2 C0  ih A0 l3 h
set_option maxRecDepth 100000 in
set_option maxHeartbeats 4000000 in
theorem kt_X5_walk (l : Launch) (G : Gp) (h0 : Nat) (a0 : Nat → Nat) (h1 : Nat) (a1 : Nat → Nat) (q2 : Nat) (g2 : Nat → Nat) (aB2 : Nat → Nat → Nat) (f0 : Nat → Int32) (A0 : Nat → Nat → Int32) (f1 : Nat → Int32) (A1 : Nat → Nat → Int32) (fB2 : Nat → Nat → Int32) (AB2 : Nat → Nat → Nat → Int32) : ∀ {r : (Nat → Nat → Int32)}, f5_walk f0 A0 f1 A1 fB2 AB2 = some r → CtrV l yX5_walk cX5_walk 6 none rmX5_walk G [.ref h0, .ref h1, .ref q2] (wX6 G h0 a0 f0 A0 ++ (wX1 G h1 a1 f1 A1 ++ (wB G q2 g2 aB2 fB2 AB2))) (wX6 G h0 a0 f0 r ++ (wX1 G h1 a1 f1 A1 ++ (wB G q2 g2 aB2 fB2 AB2))) := by
  intro res h
  refine ctrV_of (cc := cX5_walk) (maxL := 6) (ret := none) (by decide +kernel) rfl (Nat.le_of_ble_eq_true rfl) (fun p e s m below meth c DA C0 hP hD ls hl => ?_)
  have hPD : WD G DA (wX6 G h0 a0 f0 A0 ++ (wX1 G h1 a1 f1 A1 ++ (wB G q2 g2 aB2 fB2 AB2))) s.heap := ⟨hP, hD⟩
  have hS : va_S DA s.heap s.heap [] := va_S.rf
  have hl : lv_has ls 6 [(0, .ref h0), (1, .ref h1), (2, .ref q2)] := hl
  obtain ⟨hx, hb, hml, hown, hts⟩ := C0.1
  have hK := C0.2.2.2.1
  unfold f5_walk at h
  refine lv_iconst (v := 0) hx hb dX5_walk_0 (by decide) ?_
  refine lv_istore_n (lv' := [(3, .int 0), (0, .ref h0), (1, .ref h1), (2, .ref q2)]) hx hb dX5_walk_1 rfl hl (by decide) rfl (fun ls hl => ?_)
  exact ww_f5_walk_l2 C0 NF A0 0 h _ _ _ hPD hS (lv_sub hl [1, 2, 3, 0] rfl)
abbrev rmX5_lookAround : Room := { frames := 3, cells := 0, slots := 0, locals := 64 }
set_option maxRecDepth 100000 in
set_option maxHeartbeats 4000000 in
theorem ww_f5_lookAround_b78  (C0 : Cx cX5_lookAround 5 none RX5 p s m args meth c G DA) {h0 : Nat} {a0 : Nat → Nat} {h1 : Nat} {a1 : Nat → Nat} {h2 : Nat} {a2 : Nat → Nat} {f0 : Nat → Int32} {f1 : Nat → Int32} {f2 : Nat → Int32} {A2 : Nat → Nat → Int32}  {k78 : (Nat → Nat → Int32) → (Nat → Nat → Int32) → Int32 → Option ((Nat → Nat → Int32) × (Nat → Nat → Int32))} {res : (Nat → Nat → Int32) × (Nat → Nat → Int32)}  (hk78 : ∀ (A0 : Nat → Nat → Int32) (A1 : Nat → Nat → Int32) (l3 : Int32), k78 A0 A1 l3 = some res → ∀ (H : Heap) (locs : List Loc) (ls : Array Slot), WD G DA (wX5 G h0 a0 f0 A0 ++ (wX6 G h1 a1 f1 A1 ++ (wX1 G h2 a2 f2 A2))) H → va_S DA s.heap H locs → lv_has ls 5 [(0, .ref h0), (1, .ref h1), (2, .ref h2), (3, .int l3)] → W p l e rmX5_lookAround s m args below meth c H locs 0 0 (MQ below (QV G DA (wX5 G h0 a0 f0 res.1 ++ (wX6 G h1 a1 f1 res.2 ++ (wX1 G h2 a2 f2 A2)))) args s 0 0 DA) (F0 m 78 ls [])) : ∀ (A0 : Nat → Nat → Int32) (A1 : Nat → Nat → Int32) (l3 : Int32), f5_lookAround_b78 f0 f1 f2 A2  k78 A0 A1 l3 = some res → ∀ (H : Heap) (locs : List Loc) (ls : Array Slot), WD G DA (wX5 G h0 a0 f0 A0 ++ (wX6 G h1 a1 f1 A1 ++ (wX1 G h2 a2 f2 A2))) H → va_S DA s.heap H locs → lv_has ls 5 [(0, .ref h0), (1, .ref h1), (2, .ref h2), (3, .int l3)] → W p l e rmX5_lookAround s m args below meth c H locs 0 0 (MQ below (QV G DA (wX5 G h0 a0 f0 res.1 ++ (wX6 G h1 a1 f1 res.2 ++ (wX1 G h2 a2 f2 A2)))) args s 0 0 DA) (F0 m 78 ls []) := by
  obtain ⟨hx, hb, hml, hown, hts⟩ := C0.1
  have hK := C0.2.2.2.1
  intro A0 A1 l3 h _ _ _ hPD hS hl
  unfold f5_lookAround_b78 at h
  refine lv_iload_n hx hb dX5_lookAround_78 rfl (lv_at hl 3 rfl) ?_
  refine lv_bipush (v := 16) hx hb dX5_lookAround_79 (by decide) ?_
  refine lv_icmp_ge (tgt := 140) hx hb dX5_lookAround_81 (by decide) (fun cc1 => ?_) (fun cc1 => ?_)
  · have h := (if_pos cc1).symm.trans h
    obtain rfl := Option.some.inj h
    exact eV C0 hPD.1 hPD.2 hS dX5_lookAround_140
  · have h := (if_neg cc1).symm.trans h
    refine lv_aload_n hx hb dX5_lookAround_84 rfl (lv_at hl 2 rfl) ?_
    refine lv_iload_n hx hb dX5_lookAround_85 rfl (lv_at hl 3 rfl) ?_
    refine kVI (As := [.int l3]) (rest := []) C0 (kt_X1_isTold l G h2 a2 f2 A2 l3) gi_V_X5_40_X1_isTold (n := 1) rfl (by decide +kernel) rfl ⟨rfl, rfl, Nat.le_of_ble_eq_true rfl, Nat.le_of_ble_eq_true rfl⟩ hPD hS 9 1 rfl rfl rfl [9, 10, 11, 12] [0, 1, 2, 3, 4, 5, 6, 7, 8] [0, 1, 2, 3, 4, 5, 6, 7, 8, 9, 10, 11, 12] (wr := (wX5 G h0 a0 f0 A0 ++ (wX6 G h1 a1 f1 A1))) (wN := (wX5 G h0 a0 f0 A0 ++ (wX6 G h1 a1 f1 A1 ++ (wX1 G h2 a2 f2 A2)))) rfl rfl rfl rfl rfl hl.1 (Nat.le_of_ble_eq_true rfl) dX5_lookAround_86 (fun H locs hPD hS => ?_)
    refine lv_if_eq (tgt := 134) hx hb dX5_lookAround_89 (by decide) (fun cc1 => ?_) (fun cc1 => ?_)
    · have h := (if_pos cc1).symm.trans h
      refine lv_iinc (v := l3 + 1) (lv' := [(3, .int (l3 + 1)), (0, .ref h0), (1, .ref h1), (2, .ref h2)]) hx hb dX5_lookAround_134 hl (k := 3) rfl rfl (by decide) rfl (fun ls hl => ?_)
      refine lv_goto (tgt := 78) hx hb dX5_lookAround_137 (by decide) ?_
      exact hk78 A0 A1 (l3 + 1) h _ _ _ hPD hS (lv_sub hl [1, 2, 3, 0] rfl)
    · have h := (if_neg cc1).symm.trans h
      refine lv_aload_n hx hb dX5_lookAround_92 rfl (lv_at hl 1 rfl) ?_
      refine va_get (D := G.1) (ci := 6) (v := .ref (a1 2)) (C := RX6) (T := TX6) (N := 10) hx hb hts inlX6 hown hK hPD.1 3 rfl rfl 2 (by decide) (hts _ gw_275) (fun _ h9 => h9) rfl dX5_lookAround_93 ?_
      refine lv_iload_n hx hb dX5_lookAround_96 rfl (lv_at hl 3 rfl) ?_
      refine kNI (As := [.ref (a1 2), .int l3]) (rest := []) C0 (kt_X9_at l G (a1 2) 16 (A1 2) l3 (by decide)) gi_U_X9_at (host := "IdleCrimes") (index := 49) (List.mem_of_getElem? (i := 24) rfl) gw_6 gw_7 (n := 2) rfl (by decide +kernel) ⟨rfl, rfl, Nat.le_of_ble_eq_true rfl, Nat.le_of_ble_eq_true rfl⟩ hPD hS [6] [0, 1, 2, 3, 4, 5, 7, 8, 9, 10, 11, 12] [0, 1, 2, 3, 4, 5, 12, 6, 7, 8, 9, 10, 11] (wr := pick (wX5 G h0 a0 f0 A0 ++ (wX6 G h1 a1 f1 A1 ++ (wX1 G h2 a2 f2 A2))) [0, 1, 2, 3, 4, 5, 7, 8, 9, 10, 11, 12]) (wN := (wX5 G h0 a0 f0 A0 ++ (wX6 G h1 a1 f1 A1 ++ (wX1 G h2 a2 f2 A2)))) rfl rfl rfl rfl rfl hl.1 (Nat.le_of_ble_eq_true rfl) dX5_lookAround_97 (fun H locs hPD hS => ?_)
      refine lv_iconst (v := 1) hx hb dX5_lookAround_100 (by decide) ?_
      refine lv_iadd hx hb dX5_lookAround_101 ?_
      refine lv_bipush (v := 99) hx hb dX5_lookAround_102 (by decide) ?_
      refine va_mmin hx hb (hml.trans hl.1.symm) hown (hts _ gw_276) (hts _ gw_205) (hts _ gw_206) (hts _ gw_207) (Nat.le_of_ble_eq_true rfl) (Nat.le_of_ble_eq_true rfl) (Nat.zero_le _) (Nat.zero_le _) dX5_lookAround_104 ?_
      refine lv_istore (lv' := [(4, .int (imin ((f9_at 16 (A1 2) l3) + 1) 99)), (0, .ref h0), (1, .ref h1), (2, .ref h2), (3, .int l3)]) hx hb dX5_lookAround_107 hl (by decide) rfl (fun ls hl => ?_)
      refine lv_aload_n hx hb dX5_lookAround_109 rfl (lv_at hl 2 rfl) ?_
      refine va_get (D := G.1) (ci := 6) (v := .ref (a1 2)) (C := RX6) (T := TX6) (N := 10) hx hb hts inlX6 hown hK hPD.1 3 rfl rfl 2 (by decide) (hts _ gw_275) (fun _ h9 => h9) rfl dX5_lookAround_110 ?_
      refine lv_iload_n hx hb dX5_lookAround_113 rfl (lv_at hl 4 rfl) ?_
      refine lv_aload_n hx hb dX5_lookAround_114 rfl (lv_at hl 1 rfl) ?_
      refine va_get (D := G.1) (ci := 5) (v := .ref (a0 0)) (C := RX5) (T := TX5) (N := 4) hx hb hts inlX5 hown hK hPD.1 0 rfl rfl 0 (by decide) (hts _ gw_274) (fun _ h9 => h9) rfl dX5_lookAround_115 ?_
      refine lv_iload_n hx hb dX5_lookAround_118 rfl (lv_at hl 4 rfl) ?_
      refine kNI (As := [.ref (a0 0), .int l3]) (rest := [.int l3, .ref (a1 2)]) C0 (kt_X9_at l G (a0 0) 16 (A0 0) l3 (by decide)) gi_U_X9_at (host := "IdleCrimes") (index := 49) (List.mem_of_getElem? (i := 24) rfl) gw_6 gw_7 (n := 2) rfl (by decide +kernel) ⟨rfl, rfl, Nat.le_of_ble_eq_true rfl, Nat.le_of_ble_eq_true rfl⟩ hPD hS [1] [0, 2, 3, 4, 5, 6, 7, 8, 9, 10, 11, 12] [0, 12, 1, 2, 3, 4, 5, 6, 7, 8, 9, 10, 11] (wr := pick (wX5 G h0 a0 f0 A0 ++ (wX6 G h1 a1 f1 A1 ++ (wX1 G h2 a2 f2 A2))) [0, 2, 3, 4, 5, 6, 7, 8, 9, 10, 11, 12]) (wN := (wX5 G h0 a0 f0 A0 ++ (wX6 G h1 a1 f1 A1 ++ (wX1 G h2 a2 f2 A2)))) rfl rfl rfl rfl rfl hl.1 (Nat.le_of_ble_eq_true rfl) dX5_lookAround_119 (fun H locs hPD hS => ?_)
      refine lv_if_le (tgt := 129) hx hb dX5_lookAround_122 (by decide) (fun cc1 => ?_) (fun cc1 => ?_)
      · have h := (if_pos cc1).symm.trans h
        refine lv_iload hx hb dX5_lookAround_129 (lv_at hl 0 rfl) ?_
        obtain ⟨z_1, ez_1, h⟩ := lvl h
        have kc := kt_X9_put l G (a1 2) 16 (A1 2) l3 (imin ((f9_at 16 (A1 2) l3) + 1) 99) (by decide)
        rw [← ez_1] at kc
        clear ez_1
        refine kNV (As := [.ref (a1 2), .int l3, .int (imin ((f9_at 16 (A1 2) l3) + 1) 99)]) (rest := []) C0 (kc) gi_U_X9_put (host := "IdleCrimes") (index := 75) (List.mem_of_getElem? (i := 26) rfl) gw_6 gw_19 (n := 3) rfl (by decide +kernel) ⟨rfl, rfl, Nat.le_of_ble_eq_true rfl, Nat.le_of_ble_eq_true rfl⟩ hPD hS [6] [0, 1, 2, 3, 4, 5, 7, 8, 9, 10, 11, 12] [0, 1, 2, 3, 4, 5, 12, 6, 7, 8, 9, 10, 11] (wr := pick (wX5 G h0 a0 f0 A0 ++ (wX6 G h1 a1 f1 A1 ++ (wX1 G h2 a2 f2 A2))) [0, 1, 2, 3, 4, 5, 7, 8, 9, 10, 11, 12]) (wN := (wX5 G h0 a0 f0 A0 ++ (wX6 G h1 a1 f1 (updA A1 2 z_1) ++ (wX1 G h2 a2 f2 A2)))) rfl rfl rfl rfl rfl hl.1 (Nat.le_of_ble_eq_true rfl) dX5_lookAround_131 (fun H locs hPD hS => ?_)
        obtain ⟨A1_2, eA1_2, h⟩ := lvl h
        have hPD : WD G DA (wX5 G h0 a0 f0 A0 ++ (wX6 G h1 a1 f1 A1_2 ++ (wX1 G h2 a2 f2 A2))) H := by rw [eA1_2]; exact hPD
        clear eA1_2
        refine lv_iinc (v := l3 + 1) (lv' := [(3, .int (l3 + 1)), (4, .int (imin ((f9_at 16 (A1 2) l3) + 1) 99)), (0, .ref h0), (1, .ref h1), (2, .ref h2)]) hx hb dX5_lookAround_134 hl (k := 4) rfl rfl (by decide) rfl (fun ls hl => ?_)
        refine lv_goto (tgt := 78) hx hb dX5_lookAround_137 (by decide) ?_
        exact hk78 A0 A1_2 (l3 + 1) h _ _ _ hPD hS (lv_sub hl [2, 3, 4, 0] rfl)
      · have h := (if_neg cc1).symm.trans h
        refine lv_iconst (v := 0) hx hb dX5_lookAround_125 (by decide) ?_
        refine lv_goto (tgt := 131) hx hb dX5_lookAround_126 (by decide) ?_
        obtain ⟨z_3, ez_3, h⟩ := lvl h
        have kc := kt_X9_put l G (a1 2) 16 (A1 2) l3 0 (by decide)
        rw [← ez_3] at kc
        clear ez_3
        refine kNV (As := [.ref (a1 2), .int l3, .int 0]) (rest := []) C0 (kc) gi_U_X9_put (host := "IdleCrimes") (index := 75) (List.mem_of_getElem? (i := 26) rfl) gw_6 gw_19 (n := 3) rfl (by decide +kernel) ⟨rfl, rfl, Nat.le_of_ble_eq_true rfl, Nat.le_of_ble_eq_true rfl⟩ hPD hS [6] [0, 1, 2, 3, 4, 5, 7, 8, 9, 10, 11, 12] [0, 1, 2, 3, 4, 5, 12, 6, 7, 8, 9, 10, 11] (wr := pick (wX5 G h0 a0 f0 A0 ++ (wX6 G h1 a1 f1 A1 ++ (wX1 G h2 a2 f2 A2))) [0, 1, 2, 3, 4, 5, 7, 8, 9, 10, 11, 12]) (wN := (wX5 G h0 a0 f0 A0 ++ (wX6 G h1 a1 f1 (updA A1 2 z_3) ++ (wX1 G h2 a2 f2 A2)))) rfl rfl rfl rfl rfl hl.1 (Nat.le_of_ble_eq_true rfl) dX5_lookAround_131 (fun H locs hPD hS => ?_)
        obtain ⟨A1_4, eA1_4, h⟩ := lvl h
        have hPD : WD G DA (wX5 G h0 a0 f0 A0 ++ (wX6 G h1 a1 f1 A1_4 ++ (wX1 G h2 a2 f2 A2))) H := by rw [eA1_4]; exact hPD
        clear eA1_4
        refine lv_iinc (v := l3 + 1) (lv' := [(3, .int (l3 + 1)), (4, .int (imin ((f9_at 16 (A1 2) l3) + 1) 99)), (0, .ref h0), (1, .ref h1), (2, .ref h2)]) hx hb dX5_lookAround_134 hl (k := 4) rfl rfl (by decide) rfl (fun ls hl => ?_)
        refine lv_goto (tgt := 78) hx hb dX5_lookAround_137 (by decide) ?_
        exact hk78 A0 A1_4 (l3 + 1) h _ _ _ hPD hS (lv_sub hl [2, 3, 4, 0] rfl)
set_option maxRecDepth 100000 in
set_option maxHeartbeats 4000000 in
theorem ww_f5_lookAround_l78  (C0 : Cx cX5_lookAround 5 none RX5 p s m args meth c G DA) {h0 : Nat} {a0 : Nat → Nat} {h1 : Nat} {a1 : Nat → Nat} {h2 : Nat} {a2 : Nat → Nat} {f0 : Nat → Int32} {f1 : Nat → Int32} {f2 : Nat → Int32} {A2 : Nat → Nat → Int32}   {res : (Nat → Nat → Int32) × (Nat → Nat → Int32)}  : ∀ (n : Nat) (A0 : Nat → Nat → Int32) (A1 : Nat → Nat → Int32) (l3 : Int32), f5_lookAround_l78 f0 f1 f2 A2  n A0 A1 l3 = some res → ∀ (H : Heap) (locs : List Loc) (ls : Array Slot), WD G DA (wX5 G h0 a0 f0 A0 ++ (wX6 G h1 a1 f1 A1 ++ (wX1 G h2 a2 f2 A2))) H → va_S DA s.heap H locs → lv_has ls 5 [(0, .ref h0), (1, .ref h1), (2, .ref h2), (3, .int l3)] → W p l e rmX5_lookAround s m args below meth c H locs 0 0 (MQ below (QV G DA (wX5 G h0 a0 f0 res.1 ++ (wX6 G h1 a1 f1 res.2 ++ (wX1 G h2 a2 f2 A2)))) args s 0 0 DA) (F0 m 78 ls []) := by
  intro n
  induction n with
  | zero => intro A0 A1 l3 h; cases h
  | succ n ih => intro A0 A1 l3 h; exact ww_f5_lookAround_b78 C0  ih A0 A1 l3 h
set_option maxRecDepth 100000 in
set_option maxHeartbeats 4000000 in
theorem ww_f5_lookAround_b26  (C0 : Cx cX5_lookAround 5 none RX5 p s m args meth c G DA) {h0 : Nat} {a0 : Nat → Nat} {h1 : Nat} {a1 : Nat → Nat} {h2 : Nat} {a2 : Nat → Nat} {f0 : Nat → Int32} {f1 : Nat → Int32} {f2 : Nat → Int32} {A2 : Nat → Nat → Int32}  {k26 : (Nat → Nat → Int32) → (Nat → Nat → Int32) → Int32 → Option ((Nat → Nat → Int32) × (Nat → Nat → Int32))} {res : (Nat → Nat → Int32) × (Nat → Nat → Int32)}  (hk26 : ∀ (A0 : Nat → Nat → Int32) (A1 : Nat → Nat → Int32) (l3 : Int32), k26 A0 A1 l3 = some res → ∀ (H : Heap) (locs : List Loc) (ls : Array Slot), WD G DA (wX5 G h0 a0 f0 A0 ++ (wX6 G h1 a1 f1 A1 ++ (wX1 G h2 a2 f2 A2))) H → va_S DA s.heap H locs → lv_has ls 5 [(0, .ref h0), (1, .ref h1), (2, .ref h2), (3, .int l3)] → W p l e rmX5_lookAround s m args below meth c H locs 0 0 (MQ below (QV G DA (wX5 G h0 a0 f0 res.1 ++ (wX6 G h1 a1 f1 res.2 ++ (wX1 G h2 a2 f2 A2)))) args s 0 0 DA) (F0 m 26 ls [])) : ∀ (A0 : Nat → Nat → Int32) (A1 : Nat → Nat → Int32) (l3 : Int32), f5_lookAround_b26 f0 f1 f2 A2  k26 A0 A1 l3 = some res → ∀ (H : Heap) (locs : List Loc) (ls : Array Slot), WD G DA (wX5 G h0 a0 f0 A0 ++ (wX6 G h1 a1 f1 A1 ++ (wX1 G h2 a2 f2 A2))) H → va_S DA s.heap H locs → lv_has ls 5 [(0, .ref h0), (1, .ref h1), (2, .ref h2), (3, .int l3)] → W p l e rmX5_lookAround s m args below meth c H locs 0 0 (MQ below (QV G DA (wX5 G h0 a0 f0 res.1 ++ (wX6 G h1 a1 f1 res.2 ++ (wX1 G h2 a2 f2 A2)))) args s 0 0 DA) (F0 m 26 ls []) := by
  obtain ⟨hx, hb, hml, hown, hts⟩ := C0.1
  have hK := C0.2.2.2.1
  intro A0 A1 l3 h _ _ _ hPD hS hl
  unfold f5_lookAround_b26 at h
  refine lv_iload_n hx hb dX5_lookAround_26 rfl (lv_at hl 3 rfl) ?_
  refine lv_bipush (v := 8) hx hb dX5_lookAround_27 (by decide) ?_
  refine lv_icmp_ge (tgt := 76) hx hb dX5_lookAround_29 (by decide) (fun cc1 => ?_) (fun cc1 => ?_)
  · have h := (if_pos cc1).symm.trans h
    refine lv_iconst (v := 0) hx hb dX5_lookAround_76 (by decide) ?_
    refine lv_istore_n (lv' := [(3, .int 0), (0, .ref h0), (1, .ref h1), (2, .ref h2)]) hx hb dX5_lookAround_77 rfl hl (by decide) rfl (fun ls hl => ?_)
    exact ww_f5_lookAround_l78 C0 NF A0 A1 0 h _ _ _ hPD hS (lv_sub hl [1, 2, 3, 0] rfl)
  · have h := (if_neg cc1).symm.trans h
    refine lv_aload_n hx hb dX5_lookAround_32 rfl (lv_at hl 1 rfl) ?_
    refine lv_iload_n hx hb dX5_lookAround_33 rfl (lv_at hl 3 rfl) ?_
    refine kVI (As := [.int l3]) (rest := []) C0 (kt_X6_isTold l G h1 a1 f1 A1 l3) gi_V_X5_61_X6_isTold (n := 1) rfl (by decide +kernel) rfl ⟨rfl, rfl, Nat.le_of_ble_eq_true rfl, Nat.le_of_ble_eq_true rfl⟩ hPD hS 3 6 rfl rfl rfl [3, 4, 5, 6, 7, 8] [0, 1, 2, 9, 10, 11, 12] [0, 1, 2, 7, 8, 9, 10, 11, 12, 3, 4, 5, 6] (wr := (wX5 G h0 a0 f0 A0 ++ (wX1 G h2 a2 f2 A2))) (wN := (wX5 G h0 a0 f0 A0 ++ (wX6 G h1 a1 f1 A1 ++ (wX1 G h2 a2 f2 A2)))) rfl rfl rfl rfl rfl hl.1 (Nat.le_of_ble_eq_true rfl) dX5_lookAround_34 (fun H locs hPD hS => ?_)
    refine lv_if_eq (tgt := 70) hx hb dX5_lookAround_37 (by decide) (fun cc1 => ?_) (fun cc1 => ?_)
    · have h := (if_pos cc1).symm.trans h
      refine lv_iinc (v := l3 + 1) (lv' := [(3, .int (l3 + 1)), (0, .ref h0), (1, .ref h1), (2, .ref h2)]) hx hb dX5_lookAround_70 hl (k := 3) rfl rfl (by decide) rfl (fun ls hl => ?_)
      refine lv_goto (tgt := 26) hx hb dX5_lookAround_73 (by decide) ?_
      exact hk26 A0 A1 (l3 + 1) h _ _ _ hPD hS (lv_sub hl [1, 2, 3, 0] rfl)
    · have h := (if_neg cc1).symm.trans h
      refine lv_aload_n hx hb dX5_lookAround_40 rfl (lv_at hl 1 rfl) ?_
      refine va_get (D := G.1) (ci := 6) (v := .ref (a1 3)) (C := RX6) (T := TX6) (N := 10) hx hb hts inlX6 hown hK hPD.1 3 rfl rfl 3 (by decide) (hts _ gw_273) (fun _ h9 => h9) rfl dX5_lookAround_41 ?_
      refine lv_iload_n hx hb dX5_lookAround_44 rfl (lv_at hl 3 rfl) ?_
      refine kNI (As := [.ref (a1 3), .int l3]) (rest := []) C0 (kt_X9_at l G (a1 3) 8 (A1 3) l3 (by decide)) gi_U_X9_at (host := "IdleCrimes") (index := 49) (List.mem_of_getElem? (i := 24) rfl) gw_6 gw_7 (n := 2) rfl (by decide +kernel) ⟨rfl, rfl, Nat.le_of_ble_eq_true rfl, Nat.le_of_ble_eq_true rfl⟩ hPD hS [7] [0, 1, 2, 3, 4, 5, 6, 8, 9, 10, 11, 12] [0, 1, 2, 3, 4, 5, 6, 12, 7, 8, 9, 10, 11] (wr := pick (wX5 G h0 a0 f0 A0 ++ (wX6 G h1 a1 f1 A1 ++ (wX1 G h2 a2 f2 A2))) [0, 1, 2, 3, 4, 5, 6, 8, 9, 10, 11, 12]) (wN := (wX5 G h0 a0 f0 A0 ++ (wX6 G h1 a1 f1 A1 ++ (wX1 G h2 a2 f2 A2)))) rfl rfl rfl rfl rfl hl.1 (Nat.le_of_ble_eq_true rfl) dX5_lookAround_45 (fun H locs hPD hS => ?_)
      refine lv_istore (lv' := [(4, .int (f9_at 8 (A1 3) l3)), (0, .ref h0), (1, .ref h1), (2, .ref h2), (3, .int l3)]) hx hb dX5_lookAround_48 hl (by decide) rfl (fun ls hl => ?_)
      refine lv_aload_n hx hb dX5_lookAround_50 rfl (lv_at hl 1 rfl) ?_
      refine va_get (D := G.1) (ci := 5) (v := .ref (a0 0)) (C := RX5) (T := TX5) (N := 4) hx hb hts inlX5 hown hK hPD.1 0 rfl rfl 0 (by decide) (hts _ gw_274) (fun _ h9 => h9) rfl dX5_lookAround_51 ?_
      refine lv_iload hx hb dX5_lookAround_54 (lv_at hl 0 rfl) ?_
      refine lv_aload_n hx hb dX5_lookAround_56 rfl (lv_at hl 1 rfl) ?_
      refine va_get (D := G.1) (ci := 5) (v := .ref (a0 0)) (C := RX5) (T := TX5) (N := 4) hx hb hts inlX5 hown hK hPD.1 0 rfl rfl 0 (by decide) (hts _ gw_274) (fun _ h9 => h9) rfl dX5_lookAround_57 ?_
      refine lv_iload hx hb dX5_lookAround_60 (lv_at hl 0 rfl) ?_
      refine kNI (As := [.ref (a0 0), .int (f9_at 8 (A1 3) l3)]) (rest := [.int (f9_at 8 (A1 3) l3), .ref (a0 0)]) C0 (kt_X9_at l G (a0 0) 16 (A0 0) (f9_at 8 (A1 3) l3) (by decide)) gi_U_X9_at (host := "IdleCrimes") (index := 49) (List.mem_of_getElem? (i := 24) rfl) gw_6 gw_7 (n := 2) rfl (by decide +kernel) ⟨rfl, rfl, Nat.le_of_ble_eq_true rfl, Nat.le_of_ble_eq_true rfl⟩ hPD hS [1] [0, 2, 3, 4, 5, 6, 7, 8, 9, 10, 11, 12] [0, 12, 1, 2, 3, 4, 5, 6, 7, 8, 9, 10, 11] (wr := pick (wX5 G h0 a0 f0 A0 ++ (wX6 G h1 a1 f1 A1 ++ (wX1 G h2 a2 f2 A2))) [0, 2, 3, 4, 5, 6, 7, 8, 9, 10, 11, 12]) (wN := (wX5 G h0 a0 f0 A0 ++ (wX6 G h1 a1 f1 A1 ++ (wX1 G h2 a2 f2 A2)))) rfl rfl rfl rfl rfl hl.1 (Nat.le_of_ble_eq_true rfl) dX5_lookAround_62 (fun H locs hPD hS => ?_)
      refine lv_iconst (v := 1) hx hb dX5_lookAround_65 (by decide) ?_
      refine lv_iadd hx hb dX5_lookAround_66 ?_
      obtain ⟨z_5, ez_5, h⟩ := lvl h
      have kc := kt_X9_put l G (a0 0) 16 (A0 0) (f9_at 8 (A1 3) l3) ((f9_at 16 (A0 0) (f9_at 8 (A1 3) l3)) + 1) (by decide)
      rw [← ez_5] at kc
      clear ez_5
      refine kNV (As := [.ref (a0 0), .int (f9_at 8 (A1 3) l3), .int ((f9_at 16 (A0 0) (f9_at 8 (A1 3) l3)) + 1)]) (rest := []) C0 (kc) gi_U_X9_put (host := "IdleCrimes") (index := 75) (List.mem_of_getElem? (i := 26) rfl) gw_6 gw_19 (n := 3) rfl (by decide +kernel) ⟨rfl, rfl, Nat.le_of_ble_eq_true rfl, Nat.le_of_ble_eq_true rfl⟩ hPD hS [1] [0, 2, 3, 4, 5, 6, 7, 8, 9, 10, 11, 12] [0, 12, 1, 2, 3, 4, 5, 6, 7, 8, 9, 10, 11] (wr := pick (wX5 G h0 a0 f0 A0 ++ (wX6 G h1 a1 f1 A1 ++ (wX1 G h2 a2 f2 A2))) [0, 2, 3, 4, 5, 6, 7, 8, 9, 10, 11, 12]) (wN := (wX5 G h0 a0 f0 (updA A0 0 z_5) ++ (wX6 G h1 a1 f1 A1 ++ (wX1 G h2 a2 f2 A2)))) rfl rfl rfl rfl rfl hl.1 (Nat.le_of_ble_eq_true rfl) dX5_lookAround_67 (fun H locs hPD hS => ?_)
      obtain ⟨A0_6, eA0_6, h⟩ := lvl h
      have hPD : WD G DA (wX5 G h0 a0 f0 A0_6 ++ (wX6 G h1 a1 f1 A1 ++ (wX1 G h2 a2 f2 A2))) H := by rw [eA0_6]; exact hPD
      clear eA0_6
      refine lv_iinc (v := l3 + 1) (lv' := [(3, .int (l3 + 1)), (4, .int (f9_at 8 (A1 3) l3)), (0, .ref h0), (1, .ref h1), (2, .ref h2)]) hx hb dX5_lookAround_70 hl (k := 4) rfl rfl (by decide) rfl (fun ls hl => ?_)
      refine lv_goto (tgt := 26) hx hb dX5_lookAround_73 (by decide) ?_
      exact hk26 A0_6 A1 (l3 + 1) h _ _ _ hPD hS (lv_sub hl [2, 3, 4, 0] rfl)
set_option maxRecDepth 100000 in
set_option maxHeartbeats 4000000 in
theorem ww_f5_lookAround_l26  (C0 : Cx cX5_lookAround 5 none RX5 p s m args meth c G DA) {h0 : Nat} {a0 : Nat → Nat} {h1 : Nat} {a1 : Nat → Nat} {h2 : Nat} {a2 : Nat → Nat} {f0 : Nat → Int32} {f1 : Nat → Int32} {f2 : Nat → Int32} {A2 : Nat → Nat → Int32}   {res : (Nat → Nat → Int32) × (Nat → Nat → Int32)}  : ∀ (n : Nat) (A0 : Nat → Nat → Int32) (A1 : Nat → Nat → Int32) (l3 : Int32), f5_lookAround_l26 f0 f1 f2 A2  n A0 A1 l3 = some res → ∀ (H : Heap) (locs : List Loc) (ls : Array Slot), WD G DA (wX5 G h0 a0 f0 A0 ++ (wX6 G h1 a1 f1 A1 ++ (wX1 G h2 a2 f2 A2))) H → va_S DA s.heap H locs → lv_has ls 5 [(0, .ref h0), (1, .ref h1), (2, .ref h2), (3, .int l3)] → W p l e rmX5_lookAround s m args below meth c H locs 0 0 (MQ below (QV G DA (wX5 G h0 a0 f0 res.1 ++ (wX6 G h1 a1 f1 res.2 ++ (wX1 G h2 a2 f2 A2)))) args s 0 0 DA) (F0 m 26 ls []) := by
  intro n
  induction n with
  | zero => intro A0 A1 l3 h; cases h
  | succ n ih => intro A0 A1 l3 h; exact ww_f5_lookAround_b26 C0  ih A0 A1 l3 h
set_option maxRecDepth 100000 in
set_option maxHeartbeats 4000000 in
theorem ww_f5_lookAround_b2  (C0 : Cx cX5_lookAround 5 none RX5 p s m args meth c G DA) {h0 : Nat} {a0 : Nat → Nat} {h1 : Nat} {a1 : Nat → Nat} {h2 : Nat} {a2 : Nat → Nat} {f0 : Nat → Int32} {f1 : Nat → Int32} {f2 : Nat → Int32} {A2 : Nat → Nat → Int32}  {k2 : (Nat → Nat → Int32) → (Nat → Nat → Int32) → Int32 → Option ((Nat → Nat → Int32) × (Nat → Nat → Int32))} {res : (Nat → Nat → Int32) × (Nat → Nat → Int32)}  (hk2 : ∀ (A0 : Nat → Nat → Int32) (A1 : Nat → Nat → Int32) (l3 : Int32), k2 A0 A1 l3 = some res → ∀ (H : Heap) (locs : List Loc) (ls : Array Slot), WD G DA (wX5 G h0 a0 f0 A0 ++ (wX6 G h1 a1 f1 A1 ++ (wX1 G h2 a2 f2 A2))) H → va_S DA s.heap H locs → lv_has ls 5 [(0, .ref h0), (1, .ref h1), (2, .ref h2), (3, .int l3)] → W p l e rmX5_lookAround s m args below meth c H locs 0 0 (MQ below (QV G DA (wX5 G h0 a0 f0 res.1 ++ (wX6 G h1 a1 f1 res.2 ++ (wX1 G h2 a2 f2 A2)))) args s 0 0 DA) (F0 m 2 ls [])) : ∀ (A0 : Nat → Nat → Int32) (A1 : Nat → Nat → Int32) (l3 : Int32), f5_lookAround_b2 f0 f1 f2 A2  k2 A0 A1 l3 = some res → ∀ (H : Heap) (locs : List Loc) (ls : Array Slot), WD G DA (wX5 G h0 a0 f0 A0 ++ (wX6 G h1 a1 f1 A1 ++ (wX1 G h2 a2 f2 A2))) H → va_S DA s.heap H locs → lv_has ls 5 [(0, .ref h0), (1, .ref h1), (2, .ref h2), (3, .int l3)] → W p l e rmX5_lookAround s m args below meth c H locs 0 0 (MQ below (QV G DA (wX5 G h0 a0 f0 res.1 ++ (wX6 G h1 a1 f1 res.2 ++ (wX1 G h2 a2 f2 A2)))) args s 0 0 DA) (F0 m 2 ls []) := by
  obtain ⟨hx, hb, hml, hown, hts⟩ := C0.1
  have hK := C0.2.2.2.1
  intro A0 A1 l3 h _ _ _ hPD hS hl
  unfold f5_lookAround_b2 at h
  refine lv_iload_n hx hb dX5_lookAround_2 rfl (lv_at hl 3 rfl) ?_
  refine lv_aload_n hx hb dX5_lookAround_3 rfl (lv_at hl 0 rfl) ?_
  refine va_get (D := G.1) (ci := 5) (v := .ref (a0 0)) (C := RX5) (T := TX5) (N := 4) hx hb hts inlX5 hown hK hPD.1 0 rfl rfl 0 (by decide) (hts _ gw_274) (fun _ h9 => h9) rfl dX5_lookAround_4 ?_
  refine va_alen (v := 16) hx hb hK hPD.1 1 1 rfl rfl rfl dX5_lookAround_7 ?_
  refine lv_icmp_ge (tgt := 24) hx hb dX5_lookAround_8 (by decide) (fun cc1 => ?_) (fun cc1 => ?_)
  · have h := (if_pos cc1).symm.trans h
    refine lv_iconst (v := 0) hx hb dX5_lookAround_24 (by decide) ?_
    refine lv_istore_n (lv' := [(3, .int 0), (0, .ref h0), (1, .ref h1), (2, .ref h2)]) hx hb dX5_lookAround_25 rfl hl (by decide) rfl (fun ls hl => ?_)
    exact ww_f5_lookAround_l26 C0 NF A0 A1 0 h _ _ _ hPD hS (lv_sub hl [1, 2, 3, 0] rfl)
  · have h := (if_neg cc1).symm.trans h
    refine lv_aload_n hx hb dX5_lookAround_11 rfl (lv_at hl 0 rfl) ?_
    refine va_get (D := G.1) (ci := 5) (v := .ref (a0 0)) (C := RX5) (T := TX5) (N := 4) hx hb hts inlX5 hown hK hPD.1 0 rfl rfl 0 (by decide) (hts _ gw_274) (fun _ h9 => h9) rfl dX5_lookAround_12 ?_
    refine lv_iload_n hx hb dX5_lookAround_15 rfl (lv_at hl 3 rfl) ?_
    refine lv_iconst (v := 0) hx hb dX5_lookAround_16 (by decide) ?_
    obtain ⟨hi_7, h⟩ := ob h
    refine va_iast hx hb hK hPD.1 hPD.2 hS 1 1 rfl rfl hi_7 dX5_lookAround_17 (fun H locs hP hD hS => ?_)
    obtain ⟨A0_8, eA0_8, h⟩ := lvl h
    have hPD : WD G DA (wX5 G h0 a0 f0 A0_8 ++ (wX6 G h1 a1 f1 A1 ++ (wX1 G h2 a2 f2 A2))) H := by rw [eA0_8]; exact ⟨hP, hD⟩
    clear eA0_8 hP hD
    refine lv_iinc (v := l3 + 1) (lv' := [(3, .int (l3 + 1)), (0, .ref h0), (1, .ref h1), (2, .ref h2)]) hx hb dX5_lookAround_18 hl (k := 3) rfl rfl (by decide) rfl (fun ls hl => ?_)
    refine lv_goto (tgt := 2) hx hb dX5_lookAround_21 (by decide) ?_
    exact hk2 A0_8 A1 (l3 + 1) h _ _ _ hPD hS (lv_sub hl [1, 2, 3, 0] rfl)
set_option maxRecDepth 100000 in
set_option maxHeartbeats 4000000 in
theorem ww_f5_lookAround_l2  (C0 : Cx cX5_lookAround 5 none RX5 p s m args meth c G DA) {h0 : Nat} {a0 : Nat → Nat} {h1 : Nat} {a1 : Nat → Nat} {h2 : Nat} {a2 : Nat → Nat} {f0 : Nat → Int32} {f1 : Nat → Int32} {f2 : Nat → Int32} {A2 : Nat → Nat → Int32}   {res : (Nat → Nat → Int32) × (Nat → Nat → Int32)}  : ∀ (n : Nat) (A0 : Nat → Nat → Int32) (A1 : Nat → Nat → Int32) (l3 : Int32), f5_lookAround_l2 f0 f1 f2 A2  n A0 A1 l3 = some res → ∀ (H : Heap) (locs : List Loc) (ls : Array Slot), WD G DA (wX5 G h0 a0 f0 A0 ++ (wX6 G h1 a1 f1 A1 ++ (wX1 G h2 a2 f2 A2))) H → va_S DA s.heap H locs → lv_has ls 5 [(0, .ref h0), (1, .ref h1), (2, .ref h2), (3, .int l3)] → W p l e rmX5_lookAround s m args below meth c H locs 0 0 (MQ below (QV G DA (wX5 G h0 a0 f0 res.1 ++ (wX6 G h1 a1 f1 res.2 ++ (wX1 G h2 a2 f2 A2)))) args s 0 0 DA) (F0 m 2 ls []) := by
  intro n
  induction n with
  | zero => intro A0 A1 l3 h; cases h
  | succ n ih => intro A0 A1 l3 h; exact ww_f5_lookAround_b2 C0  ih A0 A1 l3 h
set_option maxRecDepth 100000 in
set_option maxHeartbeats 4000000 in
theorem kt_X5_lookAround (l : Launch) (G : Gp) (h0 : Nat) (a0 : Nat → Nat) (h1 : Nat) (a1 : Nat → Nat) (h2 : Nat) (a2 : Nat → Nat) (f0 : Nat → Int32) (A0 : Nat → Nat → Int32) (f1 : Nat → Int32) (A1 : Nat → Nat → Int32) (f2 : Nat → Int32) (A2 : Nat → Nat → Int32) : ∀ {r : (Nat → Nat → Int32) × (Nat → Nat → Int32)}, f5_lookAround f0 A0 f1 A1 f2 A2 = some r → CtrV l yX5_lookAround cX5_lookAround 5 none rmX5_lookAround G [.ref h0, .ref h1, .ref h2] (wX5 G h0 a0 f0 A0 ++ (wX6 G h1 a1 f1 A1 ++ (wX1 G h2 a2 f2 A2))) (wX5 G h0 a0 f0 r.1 ++ (wX6 G h1 a1 f1 r.2 ++ (wX1 G h2 a2 f2 A2))) := by
  intro res h
  refine ctrV_of (cc := cX5_lookAround) (maxL := 5) (ret := none) (by decide +kernel) rfl (Nat.le_of_ble_eq_true rfl) (fun p e s m below meth c DA C0 hP hD ls hl => ?_)
  have hPD : WD G DA (wX5 G h0 a0 f0 A0 ++ (wX6 G h1 a1 f1 A1 ++ (wX1 G h2 a2 f2 A2))) s.heap := ⟨hP, hD⟩
  have hS : va_S DA s.heap s.heap [] := va_S.rf
  have hl : lv_has ls 5 [(0, .ref h0), (1, .ref h1), (2, .ref h2)] := hl
  obtain ⟨hx, hb, hml, hown, hts⟩ := C0.1
  have hK := C0.2.2.2.1
  unfold f5_lookAround at h
  refine lv_iconst (v := 0) hx hb dX5_lookAround_0 (by decide) ?_
  refine lv_istore_n (lv' := [(3, .int 0), (0, .ref h0), (1, .ref h1), (2, .ref h2)]) hx hb dX5_lookAround_1 rfl hl (by decide) rfl (fun ls hl => ?_)
  exact ww_f5_lookAround_l2 C0 NF A0 A1 0 h _ _ _ hPD hS (lv_sub hl [1, 2, 3, 0] rfl)
abbrev rmX9_sumOf : Room := { frames := 2, cells := 0, slots := 0, locals := 43 }
set_option maxRecDepth 100000 in
set_option maxHeartbeats 4000000 in
theorem ww_f9_sumOf_b4  (C0 : Cx cX9_sumOf 4 (some .int) RX9 p s m args meth c G DA) {q0 : Nat} {n0 : Nat} {xs0 : Nat → Int32} {p1 : Int32} (hn0 : n0 < 2147483648) {k4 : Int32 → Int32 → Option (Int32)} {res : Int32}  (hk4 : ∀ (l2 : Int32) (l3 : Int32), k4 l2 l3 = some res → ∀ (H : Heap) (locs : List Loc) (ls : Array Slot), WD G DA (wI G q0 n0 xs0) H → va_S DA s.heap H locs → lv_has ls 4 [(0, .ref q0), (1, .int p1), (2, .int l2), (3, .int l3)] → W p l e rmX9_sumOf s m args below meth c H locs 0 0 (MQ below (QI G DA res (wI G q0 n0 xs0)) args s 0 0 DA) (F0 m 4 ls [])) : ∀ (l2 : Int32) (l3 : Int32), f9_sumOf_b4 n0 xs0 p1  k4 l2 l3 = some res → ∀ (H : Heap) (locs : List Loc) (ls : Array Slot), WD G DA (wI G q0 n0 xs0) H → va_S DA s.heap H locs → lv_has ls 4 [(0, .ref q0), (1, .int p1), (2, .int l2), (3, .int l3)] → W p l e rmX9_sumOf s m args below meth c H locs 0 0 (MQ below (QI G DA res (wI G q0 n0 xs0)) args s 0 0 DA) (F0 m 4 ls []) := by
  obtain ⟨hx, hb, hml, hown, hts⟩ := C0.1
  have hK := C0.2.2.2.1
  intro l2 l3 h _ _ _ hPD hS hl
  unfold f9_sumOf_b4 at h
  refine lv_iload_n hx hb dX9_sumOf_4 rfl (lv_at hl 3 rfl) ?_
  refine lv_aload_n hx hb dX9_sumOf_5 rfl (lv_at hl 0 rfl) ?_
  refine va_alen (v := nI n0) hx hb hK hPD.1 0 1 rfl rfl rfl dX9_sumOf_6 ?_
  refine lv_icmp_ge (tgt := 30) hx hb dX9_sumOf_7 (by decide) (fun cc1 => ?_) (fun cc1 => ?_)
  · have h := (if_pos cc1).symm.trans h
    refine lv_iload_n hx hb dX9_sumOf_30 rfl (lv_at hl 2 rfl) ?_
    obtain rfl := Option.some.inj h
    exact eI C0 hPD.1 hPD.2 hS rfl dX9_sumOf_31
  · have h := (if_neg cc1).symm.trans h
    refine lv_iload_n hx hb dX9_sumOf_10 rfl (lv_at hl 1 rfl) ?_
    refine lv_iload_n hx hb dX9_sumOf_11 rfl (lv_at hl 3 rfl) ?_
    refine kSI (As := [.int p1, .int l3]) (rest := []) C0 (kt_X9_has l G  p1 l3) gi_S_X9_290_X9_has (n := 2) rfl (by decide +kernel) ⟨rfl, rfl, Nat.le_of_ble_eq_true rfl, Nat.le_of_ble_eq_true rfl⟩ hPD hS [] [0] [0] (wr := (wI G q0 n0 xs0)) (wN := (wI G q0 n0 xs0)) rfl rfl rfl rfl rfl hl.1 (Nat.le_of_ble_eq_true rfl) dX9_sumOf_12 (fun H locs hPD hS => ?_)
    refine lv_if_eq (tgt := 24) hx hb dX9_sumOf_15 (by decide) (fun cc1 => ?_) (fun cc1 => ?_)
    · have h := (if_pos cc1).symm.trans h
      refine lv_iinc (v := l3 + 1) (lv' := [(3, .int (l3 + 1)), (0, .ref q0), (1, .int p1), (2, .int l2)]) hx hb dX9_sumOf_24 hl (k := 3) rfl rfl (by decide) rfl (fun ls hl => ?_)
      refine lv_goto (tgt := 4) hx hb dX9_sumOf_27 (by decide) ?_
      exact hk4 l2 (l3 + 1) h _ _ _ hPD hS (lv_sub hl [1, 2, 3, 0] rfl)
    · have h := (if_neg cc1).symm.trans h
      refine lv_iload_n hx hb dX9_sumOf_18 rfl (lv_at hl 2 rfl) ?_
      refine lv_aload_n hx hb dX9_sumOf_19 rfl (lv_at hl 0 rfl) ?_
      refine lv_iload_n hx hb dX9_sumOf_20 rfl (lv_at hl 3 rfl) ?_
      obtain ⟨hi_1, h⟩ := ob h
      refine va_iald hx hb hK hPD.1 0 1 rfl rfl hi_1 dX9_sumOf_21 ?_
      refine lv_iadd hx hb dX9_sumOf_22 ?_
      refine lv_istore_n (lv' := [(2, .int (l2 + (gx xs0 l3))), (0, .ref q0), (1, .int p1), (3, .int l3)]) hx hb dX9_sumOf_23 rfl hl (by decide) rfl (fun ls hl => ?_)
      refine lv_iinc (v := l3 + 1) (lv' := [(3, .int (l3 + 1)), (2, .int (l2 + (gx xs0 l3))), (0, .ref q0), (1, .int p1)]) hx hb dX9_sumOf_24 hl (k := 3) rfl rfl (by decide) rfl (fun ls hl => ?_)
      refine lv_goto (tgt := 4) hx hb dX9_sumOf_27 (by decide) ?_
      exact hk4 (l2 + (gx xs0 l3)) (l3 + 1) h _ _ _ hPD hS (lv_sub hl [2, 3, 1, 0] rfl)
set_option maxRecDepth 100000 in
set_option maxHeartbeats 4000000 in
theorem ww_f9_sumOf_l4  (C0 : Cx cX9_sumOf 4 (some .int) RX9 p s m args meth c G DA) {q0 : Nat} {n0 : Nat} {xs0 : Nat → Int32} {p1 : Int32} (hn0 : n0 < 2147483648)  {res : Int32}  : ∀ (n : Nat) (l2 : Int32) (l3 : Int32), f9_sumOf_l4 n0 xs0 p1  n l2 l3 = some res → ∀ (H : Heap) (locs : List Loc) (ls : Array Slot), WD G DA (wI G q0 n0 xs0) H → va_S DA s.heap H locs → lv_has ls 4 [(0, .ref q0), (1, .int p1), (2, .int l2), (3, .int l3)] → W p l e rmX9_sumOf s m args below meth c H locs 0 0 (MQ below (QI G DA res (wI G q0 n0 xs0)) args s 0 0 DA) (F0 m 4 ls []) := by
  intro n
  induction n with
  | zero => intro l2 l3 h; cases h
  | succ n ih => intro l2 l3 h; exact ww_f9_sumOf_b4 C0 hn0  ih l2 l3 h
set_option maxRecDepth 100000 in
set_option maxHeartbeats 4000000 in
theorem kt_X9_sumOf (l : Launch) (G : Gp) (q0 : Nat) (n0 : Nat) (xs0 : Nat → Int32) (p1 : Int32) (hn0 : n0 < 2147483648) : ∀ {r : Int32}, f9_sumOf n0 xs0 p1 = some r → CtrI l yX9_sumOf cX9_sumOf 4 (some .int) rmX9_sumOf G [.ref q0, .int p1] (wI G q0 n0 xs0) r (wI G q0 n0 xs0) := by
  intro res h
  refine ctrI_of (cc := cX9_sumOf) (maxL := 4) (ret := (some .int)) (by decide +kernel) rfl (Nat.le_of_ble_eq_true rfl) (fun p e s m below meth c DA C0 hP hD ls hl => ?_)
  have hPD : WD G DA (wI G q0 n0 xs0) s.heap := ⟨hP, hD⟩
  have hS : va_S DA s.heap s.heap [] := va_S.rf
  have hl : lv_has ls 4 [(0, .ref q0), (1, .int p1)] := hl
  obtain ⟨hx, hb, hml, hown, hts⟩ := C0.1
  have hK := C0.2.2.2.1
  unfold f9_sumOf at h
  refine lv_iconst (v := 0) hx hb dX9_sumOf_0 (by decide) ?_
  refine lv_istore_n (lv' := [(2, .int 0), (0, .ref q0), (1, .int p1)]) hx hb dX9_sumOf_1 rfl hl (by decide) rfl (fun ls hl => ?_)
  refine lv_iconst (v := 0) hx hb dX9_sumOf_2 (by decide) ?_
  refine lv_istore_n (lv' := [(3, .int 0), (2, .int 0), (0, .ref q0), (1, .int p1)]) hx hb dX9_sumOf_3 rfl hl (by decide) rfl (fun ls hl => ?_)
  exact ww_f9_sumOf_l4 C0 hn0 NF 0 0 h _ _ _ hPD hS (lv_sub hl [2, 3, 1, 0] rfl)
abbrev rmX5_know : Room := { frames := 3, cells := 0, slots := 0, locals := 66 }
set_option maxRecDepth 100000 in
set_option maxHeartbeats 4000000 in
theorem kt_X5_know (l : Launch) (G : Gp) (h0 : Nat) (a0 : Nat → Nat) (h1 : Nat) (a1 : Nat → Nat) (f0 : Nat → Int32) (A0 : Nat → Nat → Int32) (f1 : Nat → Int32) (A1 : Nat → Nat → Int32) (p2 : Int32) (p3 : Int32) : ∀ {r : (Nat → Nat → Int32)}, f5_know f0 A0 f1 A1 p2 p3 = some r → CtrV l yX5_know cX5_know 4 none rmX5_know G [.ref h0, .ref h1, .int p2, .int p3] (wX5 G h0 a0 f0 A0 ++ (wX6 G h1 a1 f1 A1)) (wX5 G h0 a0 f0 r ++ (wX6 G h1 a1 f1 A1)) := by
  intro res h
  refine ctrV_of (cc := cX5_know) (maxL := 4) (ret := none) (by decide +kernel) rfl (Nat.le_of_ble_eq_true rfl) (fun p e s m below meth c DA C0 hP hD ls hl => ?_)
  have hPD : WD G DA (wX5 G h0 a0 f0 A0 ++ (wX6 G h1 a1 f1 A1)) s.heap := ⟨hP, hD⟩
  have hS : va_S DA s.heap s.heap [] := va_S.rf
  have hl : lv_has ls 4 [(0, .ref h0), (1, .ref h1), (2, .int p2), (3, .int p3)] := hl
  obtain ⟨hx, hb, hml, hown, hts⟩ := C0.1
  have hK := C0.2.2.2.1
  unfold f5_know at h
  refine lv_aload_n hx hb dX5_know_0 rfl (lv_at hl 0 rfl) ?_
  refine va_get (D := G.1) (ci := 5) (v := .ref (a0 1)) (C := RX5) (T := TX5) (N := 4) hx hb hts inlX5 hown hK hPD.1 0 rfl rfl 1 (by decide) (hts _ gw_277) (fun _ h9 => h9) rfl dX5_know_1 ?_
  refine lv_iconst (v := 0) hx hb dX5_know_4 (by decide) ?_
  refine lv_iload_n hx hb dX5_know_5 rfl (lv_at hl 2 rfl) ?_
  obtain ⟨z_1, ez_1, h⟩ := lvl h
  have kc := kt_X9_put l G (a0 1) 8 (A0 1) 0 p2 (by decide)
  rw [← ez_1] at kc
  clear ez_1
  refine kNV (As := [.ref (a0 1), .int 0, .int p2]) (rest := []) C0 (kc) gi_U_X9_put (host := "IdleCrimes") (index := 75) (List.mem_of_getElem? (i := 26) rfl) gw_6 gw_19 (n := 3) rfl (by decide +kernel) ⟨rfl, rfl, Nat.le_of_ble_eq_true rfl, Nat.le_of_ble_eq_true rfl⟩ hPD hS [2] [0, 1, 3, 4, 5, 6, 7, 8] [0, 1, 8, 2, 3, 4, 5, 6, 7] (wr := pick (wX5 G h0 a0 f0 A0 ++ (wX6 G h1 a1 f1 A1)) [0, 1, 3, 4, 5, 6, 7, 8]) (wN := (wX5 G h0 a0 f0 (updA A0 1 z_1) ++ (wX6 G h1 a1 f1 A1))) rfl rfl rfl rfl rfl hl.1 (Nat.le_of_ble_eq_true rfl) dX5_know_6 (fun H locs hPD hS => ?_)
  obtain ⟨A0_2, eA0_2, h⟩ := lvl h
  have hPD : WD G DA (wX5 G h0 a0 f0 A0_2 ++ (wX6 G h1 a1 f1 A1)) H := by rw [eA0_2]; exact hPD
  clear eA0_2
  refine lv_aload_n hx hb dX5_know_9 rfl (lv_at hl 0 rfl) ?_
  refine va_get (D := G.1) (ci := 5) (v := .ref (a0 1)) (C := RX5) (T := TX5) (N := 4) hx hb hts inlX5 hown hK hPD.1 0 rfl rfl 1 (by decide) (hts _ gw_277) (fun _ h9 => h9) rfl dX5_know_10 ?_
  refine lv_iconst (v := 1) hx hb dX5_know_13 (by decide) ?_
  refine lv_aload_n hx hb dX5_know_14 rfl (lv_at hl 1 rfl) ?_
  refine va_get (D := G.1) (ci := 6) (v := .ref (a1 0)) (C := RX6) (T := TX6) (N := 10) hx hb hts inlX6 hown hK hPD.1 3 rfl rfl 0 (by decide) (hts _ gw_278) (fun _ h9 => h9) rfl dX5_know_15 ?_
  refine lv_iload_n hx hb dX5_know_18 rfl (lv_at hl 2 rfl) ?_
  refine kNI (As := [.ref (a1 0), .int p2]) (rest := [.int 1, .ref (a0 1)]) C0 (kt_X9_at l G (a1 0) 16 (A1 0) p2 (by decide)) gi_U_X9_at (host := "IdleCrimes") (index := 49) (List.mem_of_getElem? (i := 24) rfl) gw_6 gw_7 (n := 2) rfl (by decide +kernel) ⟨rfl, rfl, Nat.le_of_ble_eq_true rfl, Nat.le_of_ble_eq_true rfl⟩ hPD hS [4] [0, 1, 2, 3, 5, 6, 7, 8] [0, 1, 2, 3, 8, 4, 5, 6, 7] (wr := pick (wX5 G h0 a0 f0 A0_2 ++ (wX6 G h1 a1 f1 A1)) [0, 1, 2, 3, 5, 6, 7, 8]) (wN := (wX5 G h0 a0 f0 A0_2 ++ (wX6 G h1 a1 f1 A1))) rfl rfl rfl rfl rfl hl.1 (Nat.le_of_ble_eq_true rfl) dX5_know_19 (fun H locs hPD hS => ?_)
  obtain ⟨z_3, ez_3, h⟩ := lvl h
  have kc := kt_X9_put l G (a0 1) 8 (A0_2 1) 1 (f9_at 16 (A1 0) p2) (by decide)
  rw [← ez_3] at kc
  clear ez_3
  refine kNV (As := [.ref (a0 1), .int 1, .int (f9_at 16 (A1 0) p2)]) (rest := []) C0 (kc) gi_U_X9_put (host := "IdleCrimes") (index := 75) (List.mem_of_getElem? (i := 26) rfl) gw_6 gw_19 (n := 3) rfl (by decide +kernel) ⟨rfl, rfl, Nat.le_of_ble_eq_true rfl, Nat.le_of_ble_eq_true rfl⟩ hPD hS [2] [0, 1, 3, 4, 5, 6, 7, 8] [0, 1, 8, 2, 3, 4, 5, 6, 7] (wr := pick (wX5 G h0 a0 f0 A0_2 ++ (wX6 G h1 a1 f1 A1)) [0, 1, 3, 4, 5, 6, 7, 8]) (wN := (wX5 G h0 a0 f0 (updA A0_2 1 z_3) ++ (wX6 G h1 a1 f1 A1))) rfl rfl rfl rfl rfl hl.1 (Nat.le_of_ble_eq_true rfl) dX5_know_22 (fun H locs hPD hS => ?_)
  obtain ⟨A0_4, eA0_4, h⟩ := lvl h
  have hPD : WD G DA (wX5 G h0 a0 f0 A0_4 ++ (wX6 G h1 a1 f1 A1)) H := by rw [eA0_4]; exact hPD
  clear eA0_4
  refine lv_aload_n hx hb dX5_know_25 rfl (lv_at hl 0 rfl) ?_
  refine va_get (D := G.1) (ci := 5) (v := .ref (a0 1)) (C := RX5) (T := TX5) (N := 4) hx hb hts inlX5 hown hK hPD.1 0 rfl rfl 1 (by decide) (hts _ gw_277) (fun _ h9 => h9) rfl dX5_know_26 ?_
  refine lv_iconst (v := 2) hx hb dX5_know_29 (by decide) ?_
  refine lv_aload_n hx hb dX5_know_30 rfl (lv_at hl 1 rfl) ?_
  refine va_get (D := G.1) (ci := 6) (v := .ref (a1 1)) (C := RX6) (T := TX6) (N := 10) hx hb hts inlX6 hown hK hPD.1 3 rfl rfl 1 (by decide) (hts _ gw_279) (fun _ h9 => h9) rfl dX5_know_31 ?_
  refine lv_iload_n hx hb dX5_know_34 rfl (lv_at hl 2 rfl) ?_
  refine kNI (As := [.ref (a1 1), .int p2]) (rest := [.int 2, .ref (a0 1)]) C0 (kt_X9_at l G (a1 1) 16 (A1 1) p2 (by decide)) gi_U_X9_at (host := "IdleCrimes") (index := 49) (List.mem_of_getElem? (i := 24) rfl) gw_6 gw_7 (n := 2) rfl (by decide +kernel) ⟨rfl, rfl, Nat.le_of_ble_eq_true rfl, Nat.le_of_ble_eq_true rfl⟩ hPD hS [5] [0, 1, 2, 3, 4, 6, 7, 8] [0, 1, 2, 3, 4, 8, 5, 6, 7] (wr := pick (wX5 G h0 a0 f0 A0_4 ++ (wX6 G h1 a1 f1 A1)) [0, 1, 2, 3, 4, 6, 7, 8]) (wN := (wX5 G h0 a0 f0 A0_4 ++ (wX6 G h1 a1 f1 A1))) rfl rfl rfl rfl rfl hl.1 (Nat.le_of_ble_eq_true rfl) dX5_know_35 (fun H locs hPD hS => ?_)
  obtain ⟨z_5, ez_5, h⟩ := lvl h
  have kc := kt_X9_put l G (a0 1) 8 (A0_4 1) 2 (f9_at 16 (A1 1) p2) (by decide)
  rw [← ez_5] at kc
  clear ez_5
  refine kNV (As := [.ref (a0 1), .int 2, .int (f9_at 16 (A1 1) p2)]) (rest := []) C0 (kc) gi_U_X9_put (host := "IdleCrimes") (index := 75) (List.mem_of_getElem? (i := 26) rfl) gw_6 gw_19 (n := 3) rfl (by decide +kernel) ⟨rfl, rfl, Nat.le_of_ble_eq_true rfl, Nat.le_of_ble_eq_true rfl⟩ hPD hS [2] [0, 1, 3, 4, 5, 6, 7, 8] [0, 1, 8, 2, 3, 4, 5, 6, 7] (wr := pick (wX5 G h0 a0 f0 A0_4 ++ (wX6 G h1 a1 f1 A1)) [0, 1, 3, 4, 5, 6, 7, 8]) (wN := (wX5 G h0 a0 f0 (updA A0_4 1 z_5) ++ (wX6 G h1 a1 f1 A1))) rfl rfl rfl rfl rfl hl.1 (Nat.le_of_ble_eq_true rfl) dX5_know_38 (fun H locs hPD hS => ?_)
  obtain ⟨A0_6, eA0_6, h⟩ := lvl h
  have hPD : WD G DA (wX5 G h0 a0 f0 A0_6 ++ (wX6 G h1 a1 f1 A1)) H := by rw [eA0_6]; exact hPD
  clear eA0_6
  refine lv_aload_n hx hb dX5_know_41 rfl (lv_at hl 0 rfl) ?_
  refine va_get (D := G.1) (ci := 5) (v := .ref (a0 1)) (C := RX5) (T := TX5) (N := 4) hx hb hts inlX5 hown hK hPD.1 0 rfl rfl 1 (by decide) (hts _ gw_277) (fun _ h9 => h9) rfl dX5_know_42 ?_
  refine lv_iconst (v := 3) hx hb dX5_know_45 (by decide) ?_
  refine lv_aload_n hx hb dX5_know_46 rfl (lv_at hl 0 rfl) ?_
  refine va_get (D := G.1) (ci := 5) (v := .ref (a0 0)) (C := RX5) (T := TX5) (N := 4) hx hb hts inlX5 hown hK hPD.1 0 rfl rfl 0 (by decide) (hts _ gw_274) (fun _ h9 => h9) rfl dX5_know_47 ?_
  refine lv_iload_n hx hb dX5_know_50 rfl (lv_at hl 2 rfl) ?_
  refine kNI (As := [.ref (a0 0), .int p2]) (rest := [.int 3, .ref (a0 1)]) C0 (kt_X9_at l G (a0 0) 16 (A0_6 0) p2 (by decide)) gi_U_X9_at (host := "IdleCrimes") (index := 49) (List.mem_of_getElem? (i := 24) rfl) gw_6 gw_7 (n := 2) rfl (by decide +kernel) ⟨rfl, rfl, Nat.le_of_ble_eq_true rfl, Nat.le_of_ble_eq_true rfl⟩ hPD hS [1] [0, 2, 3, 4, 5, 6, 7, 8] [0, 8, 1, 2, 3, 4, 5, 6, 7] (wr := pick (wX5 G h0 a0 f0 A0_6 ++ (wX6 G h1 a1 f1 A1)) [0, 2, 3, 4, 5, 6, 7, 8]) (wN := (wX5 G h0 a0 f0 A0_6 ++ (wX6 G h1 a1 f1 A1))) rfl rfl rfl rfl rfl hl.1 (Nat.le_of_ble_eq_true rfl) dX5_know_51 (fun H locs hPD hS => ?_)
  obtain ⟨z_7, ez_7, h⟩ := lvl h
  have kc := kt_X9_put l G (a0 1) 8 (A0_6 1) 3 (f9_at 16 (A0_6 0) p2) (by decide)
  rw [← ez_7] at kc
  clear ez_7
  refine kNV (As := [.ref (a0 1), .int 3, .int (f9_at 16 (A0_6 0) p2)]) (rest := []) C0 (kc) gi_U_X9_put (host := "IdleCrimes") (index := 75) (List.mem_of_getElem? (i := 26) rfl) gw_6 gw_19 (n := 3) rfl (by decide +kernel) ⟨rfl, rfl, Nat.le_of_ble_eq_true rfl, Nat.le_of_ble_eq_true rfl⟩ hPD hS [2] [0, 1, 3, 4, 5, 6, 7, 8] [0, 1, 8, 2, 3, 4, 5, 6, 7] (wr := pick (wX5 G h0 a0 f0 A0_6 ++ (wX6 G h1 a1 f1 A1)) [0, 1, 3, 4, 5, 6, 7, 8]) (wN := (wX5 G h0 a0 f0 (updA A0_6 1 z_7) ++ (wX6 G h1 a1 f1 A1))) rfl rfl rfl rfl rfl hl.1 (Nat.le_of_ble_eq_true rfl) dX5_know_54 (fun H locs hPD hS => ?_)
  obtain ⟨A0_8, eA0_8, h⟩ := lvl h
  have hPD : WD G DA (wX5 G h0 a0 f0 A0_8 ++ (wX6 G h1 a1 f1 A1)) H := by rw [eA0_8]; exact hPD
  clear eA0_8
  refine lv_aload_n hx hb dX5_know_57 rfl (lv_at hl 0 rfl) ?_
  refine va_get (D := G.1) (ci := 5) (v := .ref (a0 1)) (C := RX5) (T := TX5) (N := 4) hx hb hts inlX5 hown hK hPD.1 0 rfl rfl 1 (by decide) (hts _ gw_277) (fun _ h9 => h9) rfl dX5_know_58 ?_
  refine lv_iconst (v := 4) hx hb dX5_know_61 (by decide) ?_
  refine lv_aload_n hx hb dX5_know_62 rfl (lv_at hl 0 rfl) ?_
  refine va_get (D := G.1) (ci := 5) (v := .ref (a0 0)) (C := RX5) (T := TX5) (N := 4) hx hb hts inlX5 hown hK hPD.1 0 rfl rfl 0 (by decide) (hts _ gw_274) (fun _ h9 => h9) rfl dX5_know_63 ?_
  refine lv_iload_n hx hb dX5_know_66 rfl (lv_at hl 3 rfl) ?_
  obtain ⟨q_9, hq_9, h⟩ := ob2 h
  refine kNI (As := [.ref (a0 0), .int p3]) (rest := [.int 4, .ref (a0 1)]) C0 (kt_X9_sumOf l G (a0 0) 16 (A0_8 0) p3 (by decide) hq_9) gi_U_X9_sumOf (host := "IdleCrimes") (index := 94) (List.mem_of_getElem? (i := 27) rfl) gw_6 gw_280 (n := 2) rfl (by decide +kernel) ⟨rfl, rfl, Nat.le_of_ble_eq_true rfl, Nat.le_of_ble_eq_true rfl⟩ hPD hS [1] [0, 2, 3, 4, 5, 6, 7, 8] [0, 8, 1, 2, 3, 4, 5, 6, 7] (wr := pick (wX5 G h0 a0 f0 A0_8 ++ (wX6 G h1 a1 f1 A1)) [0, 2, 3, 4, 5, 6, 7, 8]) (wN := (wX5 G h0 a0 f0 A0_8 ++ (wX6 G h1 a1 f1 A1))) rfl rfl rfl rfl rfl hl.1 (Nat.le_of_ble_eq_true rfl) dX5_know_67 (fun H locs hPD hS => ?_)
  obtain ⟨z_10, ez_10, h⟩ := lvl h
  have kc := kt_X9_put l G (a0 1) 8 (A0_8 1) 4 q_9 (by decide)
  rw [← ez_10] at kc
  clear ez_10
  refine kNV (As := [.ref (a0 1), .int 4, .int q_9]) (rest := []) C0 (kc) gi_U_X9_put (host := "IdleCrimes") (index := 75) (List.mem_of_getElem? (i := 26) rfl) gw_6 gw_19 (n := 3) rfl (by decide +kernel) ⟨rfl, rfl, Nat.le_of_ble_eq_true rfl, Nat.le_of_ble_eq_true rfl⟩ hPD hS [2] [0, 1, 3, 4, 5, 6, 7, 8] [0, 1, 8, 2, 3, 4, 5, 6, 7] (wr := pick (wX5 G h0 a0 f0 A0_8 ++ (wX6 G h1 a1 f1 A1)) [0, 1, 3, 4, 5, 6, 7, 8]) (wN := (wX5 G h0 a0 f0 (updA A0_8 1 z_10) ++ (wX6 G h1 a1 f1 A1))) rfl rfl rfl rfl rfl hl.1 (Nat.le_of_ble_eq_true rfl) dX5_know_70 (fun H locs hPD hS => ?_)
  obtain ⟨A0_11, eA0_11, h⟩ := lvl h
  have hPD : WD G DA (wX5 G h0 a0 f0 A0_11 ++ (wX6 G h1 a1 f1 A1)) H := by rw [eA0_11]; exact hPD
  clear eA0_11
  refine lv_aload_n hx hb dX5_know_73 rfl (lv_at hl 0 rfl) ?_
  refine va_get (D := G.1) (ci := 5) (v := .ref (a0 1)) (C := RX5) (T := TX5) (N := 4) hx hb hts inlX5 hown hK hPD.1 0 rfl rfl 1 (by decide) (hts _ gw_277) (fun _ h9 => h9) rfl dX5_know_74 ?_
  refine lv_iconst (v := 5) hx hb dX5_know_77 (by decide) ?_
  refine lv_aload_n hx hb dX5_know_78 rfl (lv_at hl 1 rfl) ?_
  refine va_get (D := G.1) (ci := 6) (v := .ref (a1 2)) (C := RX6) (T := TX6) (N := 10) hx hb hts inlX6 hown hK hPD.1 3 rfl rfl 2 (by decide) (hts _ gw_275) (fun _ h9 => h9) rfl dX5_know_79 ?_
  refine lv_iload_n hx hb dX5_know_82 rfl (lv_at hl 2 rfl) ?_
  refine kNI (As := [.ref (a1 2), .int p2]) (rest := [.int 5, .ref (a0 1)]) C0 (kt_X9_at l G (a1 2) 16 (A1 2) p2 (by decide)) gi_U_X9_at (host := "IdleCrimes") (index := 49) (List.mem_of_getElem? (i := 24) rfl) gw_6 gw_7 (n := 2) rfl (by decide +kernel) ⟨rfl, rfl, Nat.le_of_ble_eq_true rfl, Nat.le_of_ble_eq_true rfl⟩ hPD hS [6] [0, 1, 2, 3, 4, 5, 7, 8] [0, 1, 2, 3, 4, 5, 8, 6, 7] (wr := pick (wX5 G h0 a0 f0 A0_11 ++ (wX6 G h1 a1 f1 A1)) [0, 1, 2, 3, 4, 5, 7, 8]) (wN := (wX5 G h0 a0 f0 A0_11 ++ (wX6 G h1 a1 f1 A1))) rfl rfl rfl rfl rfl hl.1 (Nat.le_of_ble_eq_true rfl) dX5_know_83 (fun H locs hPD hS => ?_)
  obtain ⟨z_12, ez_12, h⟩ := lvl h
  have kc := kt_X9_put l G (a0 1) 8 (A0_11 1) 5 (f9_at 16 (A1 2) p2) (by decide)
  rw [← ez_12] at kc
  clear ez_12
  refine kNV (As := [.ref (a0 1), .int 5, .int (f9_at 16 (A1 2) p2)]) (rest := []) C0 (kc) gi_U_X9_put (host := "IdleCrimes") (index := 75) (List.mem_of_getElem? (i := 26) rfl) gw_6 gw_19 (n := 3) rfl (by decide +kernel) ⟨rfl, rfl, Nat.le_of_ble_eq_true rfl, Nat.le_of_ble_eq_true rfl⟩ hPD hS [2] [0, 1, 3, 4, 5, 6, 7, 8] [0, 1, 8, 2, 3, 4, 5, 6, 7] (wr := pick (wX5 G h0 a0 f0 A0_11 ++ (wX6 G h1 a1 f1 A1)) [0, 1, 3, 4, 5, 6, 7, 8]) (wN := (wX5 G h0 a0 f0 (updA A0_11 1 z_12) ++ (wX6 G h1 a1 f1 A1))) rfl rfl rfl rfl rfl hl.1 (Nat.le_of_ble_eq_true rfl) dX5_know_86 (fun H locs hPD hS => ?_)
  obtain ⟨A0_13, eA0_13, h⟩ := lvl h
  have hPD : WD G DA (wX5 G h0 a0 f0 A0_13 ++ (wX6 G h1 a1 f1 A1)) H := by rw [eA0_13]; exact hPD
  clear eA0_13
  refine lv_aload_n hx hb dX5_know_89 rfl (lv_at hl 0 rfl) ?_
  refine va_get (D := G.1) (ci := 5) (v := .ref (a0 1)) (C := RX5) (T := TX5) (N := 4) hx hb hts inlX5 hown hK hPD.1 0 rfl rfl 1 (by decide) (hts _ gw_277) (fun _ h9 => h9) rfl dX5_know_90 ?_
  refine lv_bipush (v := 6) hx hb dX5_know_93 (by decide) ?_
  refine lv_aload_n hx hb dX5_know_95 rfl (lv_at hl 1 rfl) ?_
  refine va_get (D := G.1) (ci := 6) (v := .int (f1 8)) (C := RX6) (T := TX6) (N := 10) hx hb hts inlX6 hown hK hPD.1 3 rfl rfl 8 (by decide) (hts _ gw_266) (fun _ h9 => h9) rfl dX5_know_96 ?_
  refine lv_bipush (v := 24) hx hb dX5_know_99 (by decide) ?_
  refine lv_irem hx hb dX5_know_101 (by decide) ?_
  obtain ⟨z_14, ez_14, h⟩ := lvl h
  have kc := kt_X9_put l G (a0 1) 8 (A0_13 1) 6 (irm (f1 8) 24) (by decide)
  rw [← ez_14] at kc
  clear ez_14
  refine kNV (As := [.ref (a0 1), .int 6, .int (irm (f1 8) 24)]) (rest := []) C0 (kc) gi_U_X9_put (host := "IdleCrimes") (index := 75) (List.mem_of_getElem? (i := 26) rfl) gw_6 gw_19 (n := 3) rfl (by decide +kernel) ⟨rfl, rfl, Nat.le_of_ble_eq_true rfl, Nat.le_of_ble_eq_true rfl⟩ hPD hS [2] [0, 1, 3, 4, 5, 6, 7, 8] [0, 1, 8, 2, 3, 4, 5, 6, 7] (wr := pick (wX5 G h0 a0 f0 A0_13 ++ (wX6 G h1 a1 f1 A1)) [0, 1, 3, 4, 5, 6, 7, 8]) (wN := (wX5 G h0 a0 f0 (updA A0_13 1 z_14) ++ (wX6 G h1 a1 f1 A1))) rfl rfl rfl rfl rfl hl.1 (Nat.le_of_ble_eq_true rfl) dX5_know_102 (fun H locs hPD hS => ?_)
  obtain ⟨A0_15, eA0_15, h⟩ := lvl h
  have hPD : WD G DA (wX5 G h0 a0 f0 A0_15 ++ (wX6 G h1 a1 f1 A1)) H := by rw [eA0_15]; exact hPD
  clear eA0_15
  refine lv_aload_n hx hb dX5_know_105 rfl (lv_at hl 0 rfl) ?_
  refine va_get (D := G.1) (ci := 5) (v := .ref (a0 1)) (C := RX5) (T := TX5) (N := 4) hx hb hts inlX5 hown hK hPD.1 0 rfl rfl 1 (by decide) (hts _ gw_277) (fun _ h9 => h9) rfl dX5_know_106 ?_
  refine lv_bipush (v := 7) hx hb dX5_know_109 (by decide) ?_
  refine lv_aload_n hx hb dX5_know_111 rfl (lv_at hl 1 rfl) ?_
  refine va_get (D := G.1) (ci := 6) (v := .int (f1 7)) (C := RX6) (T := TX6) (N := 10) hx hb hts inlX6 hown hK hPD.1 3 rfl rfl 7 (by decide) (hts _ gw_282) (fun _ h9 => h9) rfl dX5_know_112 ?_
  obtain ⟨z_16, ez_16, h⟩ := lvl h
  have kc := kt_X9_put l G (a0 1) 8 (A0_15 1) 7 (f1 7) (by decide)
  rw [← ez_16] at kc
  clear ez_16
  refine kNV (As := [.ref (a0 1), .int 7, .int (f1 7)]) (rest := []) C0 (kc) gi_U_X9_put (host := "IdleCrimes") (index := 75) (List.mem_of_getElem? (i := 26) rfl) gw_6 gw_19 (n := 3) rfl (by decide +kernel) ⟨rfl, rfl, Nat.le_of_ble_eq_true rfl, Nat.le_of_ble_eq_true rfl⟩ hPD hS [2] [0, 1, 3, 4, 5, 6, 7, 8] [0, 1, 8, 2, 3, 4, 5, 6, 7] (wr := pick (wX5 G h0 a0 f0 A0_15 ++ (wX6 G h1 a1 f1 A1)) [0, 1, 3, 4, 5, 6, 7, 8]) (wN := (wX5 G h0 a0 f0 (updA A0_15 1 z_16) ++ (wX6 G h1 a1 f1 A1))) rfl rfl rfl rfl rfl hl.1 (Nat.le_of_ble_eq_true rfl) dX5_know_115 (fun H locs hPD hS => ?_)
  obtain ⟨A0_17, eA0_17, h⟩ := lvl h
  have hPD : WD G DA (wX5 G h0 a0 f0 A0_17 ++ (wX6 G h1 a1 f1 A1)) H := by rw [eA0_17]; exact hPD
  clear eA0_17
  obtain rfl := Option.some.inj h
  exact eV C0 hPD.1 hPD.2 hS dX5_know_118
abbrev rmX6_draw : Room := { frames := 0, cells := 0, slots := 0, locals := 0 }
set_option maxRecDepth 100000 in
set_option maxHeartbeats 4000000 in
theorem kt_X6_draw (l : Launch) (G : Gp) (h0 : Nat) (a0 : Nat → Nat) (f0 : Nat → Int32) (A0 : Nat → Nat → Int32) : ∀ {r : Int32 × (Nat → Int32)}, f6_draw f0 A0 = some r → CtrI l yX6_draw cX6_draw 1 (some .int) rmX6_draw G [.ref h0] (wX6 G h0 a0 f0 A0) r.1 (wX6 G h0 a0 r.2 A0) := by
  intro res h
  refine ctrI_of (cc := cX6_draw) (maxL := 1) (ret := (some .int)) (by decide +kernel) rfl (Nat.le_of_ble_eq_true rfl) (fun p e s m below meth c DA C0 hP hD ls hl => ?_)
  have hPD : WD G DA (wX6 G h0 a0 f0 A0) s.heap := ⟨hP, hD⟩
  have hS : va_S DA s.heap s.heap [] := va_S.rf
  have hl : lv_has ls 1 [(0, .ref h0)] := hl
  obtain ⟨hx, hb, hml, hown, hts⟩ := C0.1
  have hK := C0.2.2.2.1
  unfold f6_draw at h
  refine lv_aload_n hx hb dX6_draw_0 rfl (lv_at hl 0 rfl) ?_
  refine lv_sipush (v := 25173) hx hb dX6_draw_1 (by decide) ?_
  refine lv_aload_n hx hb dX6_draw_4 rfl (lv_at hl 0 rfl) ?_
  refine va_get (D := G.1) (ci := 6) (v := .int (f0 9)) (C := RX6) (T := TX6) (N := 10) hx hb hts inlX6 hown hK hPD.1 0 rfl rfl 9 (by decide) (hts _ gw_283) (fun _ h9 => h9) rfl dX6_draw_5 ?_
  refine lv_imul hx hb dX6_draw_8 ?_
  refine lv_sipush (v := 13849) hx hb dX6_draw_9 (by decide) ?_
  refine lv_iadd hx hb dX6_draw_12 ?_
  refine lv_ldc (v := 65535) hx hb hown (hts _ gw_284) dX6_draw_13 ?_
  refine lv_iand hx hb dX6_draw_15 ?_
  refine va_put (D := G.1) (ci := 6) (v := .int (((25173 * (f0 9)) + 13849) &&& 65535)) (ty := .int) (C := RX6) (T := TX6) (N := 10) hx hb hts inlX6 tyX6 tyX6_ok nmX6 hown hK hPD.1 hPD.2 hS 0 rfl rfl 9 (by decide) (hts _ gw_283) (fun _ h9 => h9) rfl (by decide +kernel) rfl rfl (Nat.le_of_ble_eq_true rfl) dX6_draw_16 (fun H locs hP hD hS => ?_)
  obtain ⟨f0_1, ef0_1, h⟩ := lvl h
  have hPD : WD G DA (wX6 G h0 a0 f0_1 A0) H := by rw [ef0_1]; exact ⟨hP, hD⟩
  clear ef0_1 hP hD
  refine lv_aload_n hx hb dX6_draw_19 rfl (lv_at hl 0 rfl) ?_
  refine va_get (D := G.1) (ci := 6) (v := .int (f0_1 9)) (C := RX6) (T := TX6) (N := 10) hx hb hts inlX6 hown hK hPD.1 0 rfl rfl 9 (by decide) (hts _ gw_283) (fun _ h9 => h9) rfl dX6_draw_20 ?_
  refine lv_bipush (v := 10) hx hb dX6_draw_23 (by decide) ?_
  refine lv_irem hx hb dX6_draw_25 (by decide) ?_
  obtain rfl := Option.some.inj h
  exact eI C0 hPD.1 hPD.2 hS rfl dX6_draw_26
end WALK
