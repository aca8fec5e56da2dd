section WALK
variable {p : Program} {l : Launch} {e : Env} {s : State} {m : MethodId} {args : Array Value} {below : List Frame} {meth : Method} {c : Code} {G : Gp} {DA : Nat → Prop}
abbrev rmX9_alone : Room := { frames := 7, cells := 0, slots := 0, locals := 159 }
set_option maxRecDepth 100000 in
set_option maxHeartbeats 4000000 in
theorem ww_f9_alone_b75  (C0 : Cx cX9_alone 6 (some .int) RX9 p s m args meth c G DA) {h0 : Nat} {a0 : Nat → Nat} {wk : Option Nat} {a1 : Nat → Nat} {a2 : Nat → Nat} {a3 : Nat → Nat} {g4 : Nat → Nat} {aB4 : Nat → Nat → Nat} {a5 : Nat → Nat} {a6 : Nat → Nat} {f0 : Nat → Int32} {A0 : Nat → Nat → Int32} {f1 : Nat → Int32} {A1 : Nat → Nat → Int32} {f2 : Nat → Int32} {A2 : Nat → Nat → Int32} {fB4 : Nat → Nat → Int32} {AB4 : Nat → Nat → Nat → Int32} {p1 : Int32} {p2 : Int32}  {k39 : (Nat → Nat → Int32) → (Nat → Int32) → (Nat → Nat → Int32) → (Nat → Int32) → (Nat → Nat → Int32) → (Nat → Int32) → Int32 → Int32 → Int32 → Option (Int32 × (Nat → Nat → Int32) × (Nat → Int32) × (Nat → Nat → Int32) × (Nat → Int32) × (Nat → Nat → Int32) × (Nat → Int32))} {res : Int32 × (Nat → Nat → Int32) × (Nat → Int32) × (Nat → Nat → Int32) × (Nat → Int32) × (Nat → Nat → Int32) × (Nat → Int32)} (hk39 : ∀ (A3 : Nat → Nat → Int32) (f3 : Nat → Int32) (A5 : Nat → Nat → Int32) (f5 : Nat → Int32) (A6 : Nat → Nat → Int32) (f6 : Nat → Int32) (l3 : Int32) (l4 : Int32) (l5 : Int32), k39 A3 f3 A5 f5 A6 f6 l3 l4 l5 = some res → ∀ (H : Heap) (locs : List Loc) (ls : Array Slot), WD G DA (wX9 G h0 a0 wk f0 A0 ++ (wX1 G (a0 1) a1 f1 A1 ++ (wX6 G (a0 2) a2 f2 A2 ++ (wX6 G (a0 3) a3 f3 A3 ++ (wB G (a0 5) g4 aB4 fB4 AB4 ++ (wX5 G (a0 6) a5 f5 A5 ++ (wX2 G (a0 11) a6 f6 A6))))))) H → va_S DA s.heap H locs → lv_has ls 6 [(0, .ref h0), (1, .int p1), (2, .int p2), (3, .int l3), (4, .int l4), (5, .int l5)] → W p l e rmX9_alone s m args below meth c H locs 0 0 (MQ below (QI G DA res.1 (wX9 G h0 a0 wk f0 A0 ++ (wX1 G (a0 1) a1 f1 A1 ++ (wX6 G (a0 2) a2 f2 A2 ++ (wX6 G (a0 3) a3 res.2.2.1 res.2.1 ++ (wB G (a0 5) g4 aB4 fB4 AB4 ++ (wX5 G (a0 6) a5 res.2.2.2.2.1 res.2.2.2.1 ++ (wX2 G (a0 11) a6 res.2.2.2.2.2.2 res.2.2.2.2.2.1)))))))) args s 0 0 DA) (F0 m 39 ls [])) : ∀ (A3 : Nat → Nat → Int32) (f3 : Nat → Int32) (A5 : Nat → Nat → Int32) (f5 : Nat → Int32) (A6 : Nat → Nat → Int32) (f6 : Nat → Int32) (l3 : Int32) (l5 : Int32) (s0 : Int32), f9_alone_b75 f0 A0 f1 A1 f2 A2 fB4 AB4 p1 p2 k39 A3 f3 A5 f5 A6 f6 l3 l5 s0 = some res → ∀ (H : Heap) (locs : List Loc) (ls : Array Slot), WD G DA (wX9 G h0 a0 wk f0 A0 ++ (wX1 G (a0 1) a1 f1 A1 ++ (wX6 G (a0 2) a2 f2 A2 ++ (wX6 G (a0 3) a3 f3 A3 ++ (wB G (a0 5) g4 aB4 fB4 AB4 ++ (wX5 G (a0 6) a5 f5 A5 ++ (wX2 G (a0 11) a6 f6 A6))))))) H → va_S DA s.heap H locs → lv_has ls 6 [(0, .ref h0), (1, .int p1), (2, .int p2), (3, .int l3), (5, .int l5)] → W p l e rmX9_alone s m args below meth c H locs 0 0 (MQ below (QI G DA res.1 (wX9 G h0 a0 wk f0 A0 ++ (wX1 G (a0 1) a1 f1 A1 ++ (wX6 G (a0 2) a2 f2 A2 ++ (wX6 G (a0 3) a3 res.2.2.1 res.2.1 ++ (wB G (a0 5) g4 aB4 fB4 AB4 ++ (wX5 G (a0 6) a5 res.2.2.2.2.1 res.2.2.2.1 ++ (wX2 G (a0 11) a6 res.2.2.2.2.2.2 res.2.2.2.2.2.1)))))))) args s 0 0 DA) (F0 m 75 ls [.int s0]) := by
  obtain ⟨hx, hb, hml, hown, hts⟩ := C0.1
  have hK := C0.2.2.2.1
  intro A3 f3 A5 f5 A6 f6 l3 l5 s0 h _ _ _ hPD hS hl
  unfold f9_alone_b75 at h
  refine lv_istore (lv' := [(4, .int s0), (0, .ref h0), (1, .int p1), (2, .int p2), (3, .int l3), (5, .int l5)]) hx hb dX9_alone_75 hl (by decide) rfl (fun ls hl => ?_)
  refine lv_iload_n hx hb dX9_alone_77 rfl (lv_at hl 4 rfl) ?_
  refine lv_iload hx hb dX9_alone_78 (lv_at hl 0 rfl) ?_
  refine va_mmax hx hb (hml.trans hl.1.symm) hown (hts _ gw_208) (hts _ gw_209) (hts _ gw_206) (hts _ gw_210) (Nat.le_of_ble_eq_true rfl) (Nat.le_of_ble_eq_true rfl) (Nat.zero_le _) (Nat.zero_le _) dX9_alone_80 ?_
  refine lv_istore_n (lv' := [(3, .int (imax l3 s0)), (4, .int s0), (0, .ref h0), (1, .int p1), (2, .int p2), (5, .int l5)]) hx hb dX9_alone_83 rfl hl (by decide) rfl (fun ls hl => ?_)
  refine lv_iinc (v := l5 + 1) (lv' := [(5, .int (l5 + 1)), (3, .int (imax l3 s0)), (4, .int s0), (0, .ref h0), (1, .int p1), (2, .int p2)]) hx hb dX9_alone_84 hl (k := 5) rfl rfl (by decide) rfl (fun ls hl => ?_)
  refine lv_goto (tgt := 39) hx hb dX9_alone_87 (by decide) ?_
  exact hk39 A3 f3 A5 f5 A6 f6 (imax l3 s0) s0 (l5 + 1) h _ _ _ hPD hS (lv_sub hl [3, 4, 5, 1, 2, 0] rfl)
set_option maxRecDepth 100000 in
set_option maxHeartbeats 4000000 in
theorem ww_f9_alone_b39  (C0 : Cx cX9_alone 6 (some .int) RX9 p s m args meth c G DA) {h0 : Nat} {a0 : Nat → Nat} {wk : Option Nat} {a1 : Nat → Nat} {a2 : Nat → Nat} {a3 : Nat → Nat} {g4 : Nat → Nat} {aB4 : Nat → Nat → Nat} {a5 : Nat → Nat} {a6 : Nat → Nat} {f0 : Nat → Int32} {A0 : Nat → Nat → Int32} {f1 : Nat → Int32} {A1 : Nat → Nat → Int32} {f2 : Nat → Int32} {A2 : Nat → Nat → Int32} {fB4 : Nat → Nat → Int32} {AB4 : Nat → Nat → Nat → Int32} {p1 : Int32} {p2 : Int32}  {k39 : (Nat → Nat → Int32) → (Nat → Int32) → (Nat → Nat → Int32) → (Nat → Int32) → (Nat → Nat → Int32) → (Nat → Int32) → Int32 → Int32 → Int32 → Option (Int32 × (Nat → Nat → Int32) × (Nat → Int32) × (Nat → Nat → Int32) × (Nat → Int32) × (Nat → Nat → Int32) × (Nat → Int32))} {res : Int32 × (Nat → Nat → Int32) × (Nat → Int32) × (Nat → Nat → Int32) × (Nat → Int32) × (Nat → Nat → Int32) × (Nat → Int32)}  (hk39 : ∀ (A3 : Nat → Nat → Int32) (f3 : Nat → Int32) (A5 : Nat → Nat → Int32) (f5 : Nat → Int32) (A6 : Nat → Nat → Int32) (f6 : Nat → Int32) (l3 : Int32) (l4 : Int32) (l5 : Int32), k39 A3 f3 A5 f5 A6 f6 l3 l4 l5 = some res → ∀ (H : Heap) (locs : List Loc) (ls : Array Slot), WD G DA (wX9 G h0 a0 wk f0 A0 ++ (wX1 G (a0 1) a1 f1 A1 ++ (wX6 G (a0 2) a2 f2 A2 ++ (wX6 G (a0 3) a3 f3 A3 ++ (wB G (a0 5) g4 aB4 fB4 AB4 ++ (wX5 G (a0 6) a5 f5 A5 ++ (wX2 G (a0 11) a6 f6 A6))))))) H → va_S DA s.heap H locs → lv_has ls 6 [(0, .ref h0), (1, .int p1), (2, .int p2), (3, .int l3), (4, .int l4), (5, .int l5)] → W p l e rmX9_alone s m args below meth c H locs 0 0 (MQ below (QI G DA res.1 (wX9 G h0 a0 wk f0 A0 ++ (wX1 G (a0 1) a1 f1 A1 ++ (wX6 G (a0 2) a2 f2 A2 ++ (wX6 G (a0 3) a3 res.2.2.1 res.2.1 ++ (wB G (a0 5) g4 aB4 fB4 AB4 ++ (wX5 G (a0 6) a5 res.2.2.2.2.1 res.2.2.2.1 ++ (wX2 G (a0 11) a6 res.2.2.2.2.2.2 res.2.2.2.2.2.1)))))))) args s 0 0 DA) (F0 m 39 ls [])) : ∀ (A3 : Nat → Nat → Int32) (f3 : Nat → Int32) (A5 : Nat → Nat → Int32) (f5 : Nat → Int32) (A6 : Nat → Nat → Int32) (f6 : Nat → Int32) (l3 : Int32) (l4 : Int32) (l5 : Int32), f9_alone_b39 f0 A0 f1 A1 f2 A2 fB4 AB4 p1 p2  k39 A3 f3 A5 f5 A6 f6 l3 l4 l5 = some res → ∀ (H : Heap) (locs : List Loc) (ls : Array Slot), WD G DA (wX9 G h0 a0 wk f0 A0 ++ (wX1 G (a0 1) a1 f1 A1 ++ (wX6 G (a0 2) a2 f2 A2 ++ (wX6 G (a0 3) a3 f3 A3 ++ (wB G (a0 5) g4 aB4 fB4 AB4 ++ (wX5 G (a0 6) a5 f5 A5 ++ (wX2 G (a0 11) a6 f6 A6))))))) H → va_S DA s.heap H locs → lv_has ls 6 [(0, .ref h0), (1, .int p1), (2, .int p2), (3, .int l3), (4, .int l4), (5, .int l5)] → W p l e rmX9_alone s m args below meth c H locs 0 0 (MQ below (QI G DA res.1 (wX9 G h0 a0 wk f0 A0 ++ (wX1 G (a0 1) a1 f1 A1 ++ (wX6 G (a0 2) a2 f2 A2 ++ (wX6 G (a0 3) a3 res.2.2.1 res.2.1 ++ (wB G (a0 5) g4 aB4 fB4 AB4 ++ (wX5 G (a0 6) a5 res.2.2.2.2.1 res.2.2.2.1 ++ (wX2 G (a0 11) a6 res.2.2.2.2.2.2 res.2.2.2.2.2.1)))))))) args s 0 0 DA) (F0 m 39 ls []) := by
  obtain ⟨hx, hb, hml, hown, hts⟩ := C0.1
  have hK := C0.2.2.2.1
  intro A3 f3 A5 f5 A6 f6 l3 l4 l5 h _ _ _ hPD hS hl
  unfold f9_alone_b39 at h
  refine lv_iload hx hb dX9_alone_39 (lv_at hl 5 rfl) ?_
  refine lv_iload_n hx hb dX9_alone_41 rfl (lv_at hl 2 rfl) ?_
  refine lv_icmp_ge (tgt := 90) hx hb dX9_alone_42 (by decide) (fun cc1 => ?_) (fun cc1 => ?_)
  · have h := (if_pos cc1).symm.trans h
    refine lv_iload_n hx hb dX9_alone_90 rfl (lv_at hl 3 rfl) ?_
    obtain rfl := Option.some.inj h
    exact eI C0 hPD.1 hPD.2 hS rfl dX9_alone_91
  · have h := (if_neg cc1).symm.trans h
    refine lv_aload_n hx hb dX9_alone_45 rfl (lv_at hl 0 rfl) ?_
    refine lv_aload_n hx hb dX9_alone_46 rfl (lv_at hl 0 rfl) ?_
    refine va_get (D := G.1) (ci := 9) (v := .ref (a0 3)) (C := RX9) (T := TX9) (N := 15) hx hb hts inlX9 hown hK hPD.1 0 rfl rfl 3 (by decide) (hts _ gw_424) (fun _ h9 => h9) rfl dX9_alone_47 ?_
    obtain ⟨q_3, hq_3, h⟩ := ob2 h
    refine kVI (As := [.ref (a0 3)]) (rest := []) C0 (kt_X9_passes l G h0 a0 wk a1 g4 aB4 a5 a6 (a0 3) a3 f0 A0 f1 A1 fB4 AB4 f5 A5 f6 A6 f3 A3 hq_3) gi_V_X9_168_X9_passes (n := 1) rfl (by decide +kernel) rfl ⟨rfl, rfl, Nat.le_of_ble_eq_true rfl, Nat.le_of_ble_eq_true rfl⟩ hPD hS 0 9 rfl rfl rfl [0, 1, 2, 3, 4, 5, 18, 19, 20, 21, 22, 23, 24, 25, 26, 27, 28, 29, 30, 31, 32, 33, 34, 35, 36, 37, 38, 39, 40, 41, 42, 43, 44, 45, 12, 13, 14, 15, 16, 17] [6, 7, 8, 9, 10, 11] [6, 7, 8, 9, 10, 11, 0, 1, 2, 3, 4, 5, 40, 41, 42, 43, 44, 45, 12, 13, 14, 15, 16, 17, 18, 19, 20, 21, 22, 23, 24, 25, 26, 27, 28, 29, 30, 31, 32, 33, 34, 35, 36, 37, 38, 39] (wr := (wX6 G (a0 2) a2 f2 A2)) (wN := (wX9 G h0 a0 wk f0 A0 ++ (wX1 G (a0 1) a1 f1 A1 ++ (wX6 G (a0 2) a2 f2 A2 ++ (wX6 G (a0 3) a3 q_3.2.2.2.2.2.2 q_3.2.2.2.2.2.1 ++ (wB G (a0 5) g4 aB4 fB4 AB4 ++ (wX5 G (a0 6) a5 q_3.2.2.1 q_3.2.1 ++ (wX2 G (a0 11) a6 q_3.2.2.2.2.1 q_3.2.2.2.1)))))))) rfl rfl rfl rfl rfl hl.1 (Nat.le_of_ble_eq_true rfl) dX9_alone_50 (fun H locs hPD hS => ?_)
    refine lv_if_eq (tgt := 90) hx hb dX9_alone_53 (by decide) (fun cc1 => ?_) (fun cc1 => ?_)
    · have h := (if_pos cc1).symm.trans h
      refine lv_iload_n hx hb dX9_alone_90 rfl (lv_at hl 3 rfl) ?_
      obtain rfl := Option.some.inj h
      exact eI C0 hPD.1 hPD.2 hS rfl dX9_alone_91
    · have h := (if_neg cc1).symm.trans h
      refine lv_aload_n hx hb dX9_alone_56 rfl (lv_at hl 0 rfl) ?_
      refine va_get (D := G.1) (ci := 9) (v := .ref (a0 3)) (C := RX9) (T := TX9) (N := 15) hx hb hts inlX9 hown hK hPD.1 0 rfl rfl 3 (by decide) (hts _ gw_424) (fun _ h9 => h9) rfl dX9_alone_57 ?_
      refine lv_iload_n hx hb dX9_alone_60 rfl (lv_at hl 1 rfl) ?_
      obtain ⟨q_4, hq_4, h⟩ := ob2 h
      refine kVI (As := [.int p1]) (rest := []) C0 (kt_X6_standAt l G (a0 3) a3 q_3.2.2.2.2.2.2 q_3.2.2.2.2.2.1 p1 hq_4) gi_V_X9_196_X6_standAt (n := 1) rfl (by decide +kernel) rfl ⟨rfl, rfl, Nat.le_of_ble_eq_true rfl, Nat.le_of_ble_eq_true rfl⟩ hPD hS 12 6 rfl rfl rfl [12, 13, 14, 15, 16, 17] [0, 1, 2, 3, 4, 5, 6, 7, 8, 9, 10, 11, 18, 19, 20, 21, 22, 23, 24, 25, 26, 27, 28, 29, 30, 31, 32, 33, 34, 35, 36, 37, 38, 39, 40, 41, 42, 43, 44, 45] [0, 1, 2, 3, 4, 5, 6, 7, 8, 9, 10, 11, 40, 41, 42, 43, 44, 45, 12, 13, 14, 15, 16, 17, 18, 19, 20, 21, 22, 23, 24, 25, 26, 27, 28, 29, 30, 31, 32, 33, 34, 35, 36, 37, 38, 39] (wr := (wX9 G h0 a0 wk f0 A0 ++ (wX1 G (a0 1) a1 f1 A1 ++ (wX6 G (a0 2) a2 f2 A2 ++ (wB G (a0 5) g4 aB4 fB4 AB4 ++ (wX5 G (a0 6) a5 q_3.2.2.1 q_3.2.1 ++ (wX2 G (a0 11) a6 q_3.2.2.2.2.1 q_3.2.2.2.1))))))) (wN := (wX9 G h0 a0 wk f0 A0 ++ (wX1 G (a0 1) a1 f1 A1 ++ (wX6 G (a0 2) a2 f2 A2 ++ (wX6 G (a0 3) a3 q_3.2.2.2.2.2.2 q_3.2.2.2.2.2.1 ++ (wB G (a0 5) g4 aB4 fB4 AB4 ++ (wX5 G (a0 6) a5 q_3.2.2.1 q_3.2.1 ++ (wX2 G (a0 11) a6 q_3.2.2.2.2.1 q_3.2.2.2.1)))))))) rfl rfl rfl rfl rfl hl.1 (Nat.le_of_ble_eq_true rfl) dX9_alone_61 (fun H locs hPD hS => ?_)
      refine lv_if_ne (tgt := 74) hx hb dX9_alone_64 (by decide) (fun cc1 => ?_) (fun cc1 => ?_)
      · have h := (if_neg cc1).symm.trans h
        refine lv_iconst (v := 0) hx hb dX9_alone_74 (by decide) ?_
        exact ww_f9_alone_b75 C0 hk39 q_3.2.2.2.2.2.1 q_3.2.2.2.2.2.2 q_3.2.1 q_3.2.2.1 q_3.2.2.2.1 q_3.2.2.2.2.1 l3 l5 0 h _ _ _ hPD hS (lv_sub hl [0, 1, 2, 3, 5] rfl)
      · have h := (if_pos cc1).symm.trans h
        refine lv_iload hx hb dX9_alone_67 (lv_at hl 4 rfl) ?_
        refine lv_iconst (v := 1) hx hb dX9_alone_69 (by decide) ?_
        refine lv_iadd hx hb dX9_alone_70 ?_
        refine lv_goto (tgt := 75) hx hb dX9_alone_71 (by decide) ?_
        exact ww_f9_alone_b75 C0 hk39 q_3.2.2.2.2.2.1 q_3.2.2.2.2.2.2 q_3.2.1 q_3.2.2.1 q_3.2.2.2.1 q_3.2.2.2.2.1 l3 l5 (l4 + 1) h _ _ _ hPD hS (lv_sub hl [0, 1, 2, 3, 5] rfl)
set_option maxRecDepth 100000 in
set_option maxHeartbeats 4000000 in
theorem ww_f9_alone_l39  (C0 : Cx cX9_alone 6 (some .int) RX9 p s m args meth c G DA) {h0 : Nat} {a0 : Nat → Nat} {wk : Option Nat} {a1 : Nat → Nat} {a2 : Nat → Nat} {a3 : Nat → Nat} {g4 : Nat → Nat} {aB4 : Nat → Nat → Nat} {a5 : Nat → Nat} {a6 : Nat → Nat} {f0 : Nat → Int32} {A0 : Nat → Nat → Int32} {f1 : Nat → Int32} {A1 : Nat → Nat → Int32} {f2 : Nat → Int32} {A2 : Nat → Nat → Int32} {fB4 : Nat → Nat → Int32} {AB4 : Nat → Nat → Nat → Int32} {p1 : Int32} {p2 : Int32}   {res : Int32 × (Nat → Nat → Int32) × (Nat → Int32) × (Nat → Nat → Int32) × (Nat → Int32) × (Nat → Nat → Int32) × (Nat → Int32)}  : ∀ (n : Nat) (A3 : Nat → Nat → Int32) (f3 : Nat → Int32) (A5 : Nat → Nat → Int32) (f5 : Nat → Int32) (A6 : Nat → Nat → Int32) (f6 : Nat → Int32) (l3 : Int32) (l4 : Int32) (l5 : Int32), f9_alone_l39 f0 A0 f1 A1 f2 A2 fB4 AB4 p1 p2  n A3 f3 A5 f5 A6 f6 l3 l4 l5 = some res → ∀ (H : Heap) (locs : List Loc) (ls : Array Slot), WD G DA (wX9 G h0 a0 wk f0 A0 ++ (wX1 G (a0 1) a1 f1 A1 ++ (wX6 G (a0 2) a2 f2 A2 ++ (wX6 G (a0 3) a3 f3 A3 ++ (wB G (a0 5) g4 aB4 fB4 AB4 ++ (wX5 G (a0 6) a5 f5 A5 ++ (wX2 G (a0 11) a6 f6 A6))))))) H → va_S DA s.heap H locs → lv_has ls 6 [(0, .ref h0), (1, .int p1), (2, .int p2), (3, .int l3), (4, .int l4), (5, .int l5)] → W p l e rmX9_alone s m args below meth c H locs 0 0 (MQ below (QI G DA res.1 (wX9 G h0 a0 wk f0 A0 ++ (wX1 G (a0 1) a1 f1 A1 ++ (wX6 G (a0 2) a2 f2 A2 ++ (wX6 G (a0 3) a3 res.2.2.1 res.2.1 ++ (wB G (a0 5) g4 aB4 fB4 AB4 ++ (wX5 G (a0 6) a5 res.2.2.2.2.1 res.2.2.2.1 ++ (wX2 G (a0 11) a6 res.2.2.2.2.2.2 res.2.2.2.2.2.1)))))))) args s 0 0 DA) (F0 m 39 ls []) := by
  intro n
  induction n with
  | zero => intro A3 f3 A5 f5 A6 f6 l3 l4 l5 h; cases h
  | succ n ih => intro A3 f3 A5 f5 A6 f6 l3 l4 l5 h; exact ww_f9_alone_b39 C0  ih A3 f3 A5 f5 A6 f6 l3 l4 l5 h
set_option maxRecDepth 100000 in
set_option maxHeartbeats 4000000 in
theorem kt_X9_alone (l : Launch) (G : Gp) (h0 : Nat) (a0 : Nat → Nat) (wk : Option Nat) (a1 : Nat → Nat) (a2 : Nat → Nat) (a3 : Nat → Nat) (g4 : Nat → Nat) (aB4 : Nat → Nat → Nat) (a5 : Nat → Nat) (a6 : Nat → Nat) (f0 : Nat → Int32) (A0 : Nat → Nat → Int32) (f1 : Nat → Int32) (A1 : Nat → Nat → Int32) (f2 : Nat → Int32) (A2 : Nat → Nat → Int32) (f3 : Nat → Int32) (A3 : Nat → Nat → Int32) (fB4 : Nat → Nat → Int32) (AB4 : Nat → Nat → Nat → Int32) (f5 : Nat → Int32) (A5 : Nat → Nat → Int32) (f6 : Nat → Int32) (A6 : Nat → Nat → Int32) (p1 : Int32) (p2 : Int32) : ∀ {r : Int32 × (Nat → Nat → Int32) × (Nat → Int32) × (Nat → Nat → Int32) × (Nat → Int32) × (Nat → Nat → Int32) × (Nat → Int32)}, f9_alone f0 A0 f1 A1 f2 A2 f3 A3 fB4 AB4 f5 A5 f6 A6 p1 p2 = some r → CtrI l yX9_alone cX9_alone 6 (some .int) rmX9_alone G [.ref h0, .int p1, .int p2] (wX9 G h0 a0 wk f0 A0 ++ (wX1 G (a0 1) a1 f1 A1 ++ (wX6 G (a0 2) a2 f2 A2 ++ (wX6 G (a0 3) a3 f3 A3 ++ (wB G (a0 5) g4 aB4 fB4 AB4 ++ (wX5 G (a0 6) a5 f5 A5 ++ (wX2 G (a0 11) a6 f6 A6))))))) r.1 (wX9 G h0 a0 wk f0 A0 ++ (wX1 G (a0 1) a1 f1 A1 ++ (wX6 G (a0 2) a2 f2 A2 ++ (wX6 G (a0 3) a3 r.2.2.1 r.2.1 ++ (wB G (a0 5) g4 aB4 fB4 AB4 ++ (wX5 G (a0 6) a5 r.2.2.2.2.1 r.2.2.2.1 ++ (wX2 G (a0 11) a6 r.2.2.2.2.2.2 r.2.2.2.2.2.1))))))) := by
  intro res h
  refine ctrI_of (cc := cX9_alone) (maxL := 6) (ret := (some .int)) (by decide +kernel) rfl (Nat.le_of_ble_eq_true rfl) (fun p e s m below meth c DA C0 hP hD ls hl => ?_)
  have hPD : WD G DA (wX9 G h0 a0 wk f0 A0 ++ (wX1 G (a0 1) a1 f1 A1 ++ (wX6 G (a0 2) a2 f2 A2 ++ (wX6 G (a0 3) a3 f3 A3 ++ (wB G (a0 5) g4 aB4 fB4 AB4 ++ (wX5 G (a0 6) a5 f5 A5 ++ (wX2 G (a0 11) a6 f6 A6))))))) s.heap := ⟨hP, hD⟩
  have hS : va_S DA s.heap s.heap [] := va_S.rf
  have hl : lv_has ls 6 [(0, .ref h0), (1, .int p1), (2, .int p2)] := hl
  obtain ⟨hx, hb, hml, hown, hts⟩ := C0.1
  have hK := C0.2.2.2.1
  unfold f9_alone at h
  refine lv_aload_n hx hb dX9_alone_0 rfl (lv_at hl 0 rfl) ?_
  refine va_get (D := G.1) (ci := 9) (v := .ref (a0 1)) (C := RX9) (T := TX9) (N := 15) hx hb hts inlX9 hown hK hPD.1 0 rfl rfl 1 (by decide) (hts _ gw_351) (fun _ h9 => h9) rfl dX9_alone_1 ?_
  refine lv_iload_n hx hb dX9_alone_4 rfl (lv_at hl 1 rfl) ?_
  refine kVI (As := [.int p1]) (rest := []) C0 (kt_X1_isTold l G (a0 1) a1 f1 A1 p1) gi_V_X9_108_X1_isTold (n := 1) rfl (by decide +kernel) rfl ⟨rfl, rfl, Nat.le_of_ble_eq_true rfl, Nat.le_of_ble_eq_true rfl⟩ hPD hS 2 1 rfl rfl rfl [2, 3, 4, 5] [0, 1, 6, 7, 8, 9, 10, 11, 12, 13, 14, 15, 16, 17, 18, 19, 20, 21, 22, 23, 24, 25, 26, 27, 28, 29, 30, 31, 32, 33, 34, 35, 36, 37, 38, 39, 40, 41, 42, 43, 44, 45] [0, 1, 42, 43, 44, 45, 2, 3, 4, 5, 6, 7, 8, 9, 10, 11, 12, 13, 14, 15, 16, 17, 18, 19, 20, 21, 22, 23, 24, 25, 26, 27, 28, 29, 30, 31, 32, 33, 34, 35, 36, 37, 38, 39, 40, 41] (wr := (wX9 G h0 a0 wk f0 A0 ++ (wX6 G (a0 2) a2 f2 A2 ++ (wX6 G (a0 3) a3 f3 A3 ++ (wB G (a0 5) g4 aB4 fB4 AB4 ++ (wX5 G (a0 6) a5 f5 A5 ++ (wX2 G (a0 11) a6 f6 A6))))))) (wN := (wX9 G h0 a0 wk f0 A0 ++ (wX1 G (a0 1) a1 f1 A1 ++ (wX6 G (a0 2) a2 f2 A2 ++ (wX6 G (a0 3) a3 f3 A3 ++ (wB G (a0 5) g4 aB4 fB4 AB4 ++ (wX5 G (a0 6) a5 f5 A5 ++ (wX2 G (a0 11) a6 f6 A6)))))))) rfl rfl rfl rfl rfl hl.1 (Nat.le_of_ble_eq_true rfl) dX9_alone_5 (fun H locs hPD hS => ?_)
  refine lv_if_eq (tgt := 18) hx hb dX9_alone_8 (by decide) (fun cc1 => ?_) (fun cc1 => ?_)
  · have h := (if_pos cc1).symm.trans h
    refine lv_iconst (v := (-1)) hx hb dX9_alone_18 (by decide) ?_
    obtain rfl := Option.some.inj h
    exact eI C0 hPD.1 hPD.2 hS rfl dX9_alone_19
  · have h := (if_neg cc1).symm.trans h
    refine lv_iload_n hx hb dX9_alone_11 rfl (lv_at hl 2 rfl) ?_
    obtain ⟨q_1, hq_1, h⟩ := ob2 h
    refine kSI (As := [.int p2]) (rest := []) C0 (kt_X9_isHours l G  p2 hq_1) gi_S_X9_165_X9_isHours (n := 1) rfl (by decide +kernel) ⟨rfl, rfl, Nat.le_of_ble_eq_true rfl, Nat.le_of_ble_eq_true rfl⟩ hPD hS [] [0, 1, 2, 3, 4, 5, 6, 7, 8, 9, 10, 11, 12, 13, 14, 15, 16, 17, 18, 19, 20, 21, 22, 23, 24, 25, 26, 27, 28, 29, 30, 31, 32, 33, 34, 35, 36, 37, 38, 39, 40, 41, 42, 43, 44, 45] [0, 1, 2, 3, 4, 5, 6, 7, 8, 9, 10, 11, 12, 13, 14, 15, 16, 17, 18, 19, 20, 21, 22, 23, 24, 25, 26, 27, 28, 29, 30, 31, 32, 33, 34, 35, 36, 37, 38, 39, 40, 41, 42, 43, 44, 45] (wr := (wX9 G h0 a0 wk f0 A0 ++ (wX1 G (a0 1) a1 f1 A1 ++ (wX6 G (a0 2) a2 f2 A2 ++ (wX6 G (a0 3) a3 f3 A3 ++ (wB G (a0 5) g4 aB4 fB4 AB4 ++ (wX5 G (a0 6) a5 f5 A5 ++ (wX2 G (a0 11) a6 f6 A6)))))))) (wN := (wX9 G h0 a0 wk f0 A0 ++ (wX1 G (a0 1) a1 f1 A1 ++ (wX6 G (a0 2) a2 f2 A2 ++ (wX6 G (a0 3) a3 f3 A3 ++ (wB G (a0 5) g4 aB4 fB4 AB4 ++ (wX5 G (a0 6) a5 f5 A5 ++ (wX2 G (a0 11) a6 f6 A6)))))))) rfl rfl rfl rfl rfl hl.1 (Nat.le_of_ble_eq_true rfl) dX9_alone_12 (fun H locs hPD hS => ?_)
    refine lv_if_ne (tgt := 20) hx hb dX9_alone_15 (by decide) (fun cc1 => ?_) (fun cc1 => ?_)
    · have h := (if_neg cc1).symm.trans h
      refine lv_iconst (v := 0) hx hb dX9_alone_20 (by decide) ?_
      refine lv_istore_n (lv' := [(3, .int 0), (0, .ref h0), (1, .int p1), (2, .int p2)]) hx hb dX9_alone_21 rfl hl (by decide) rfl (fun ls hl => ?_)
      refine lv_iconst (v := 0) hx hb dX9_alone_22 (by decide) ?_
      refine lv_istore (lv' := [(4, .int 0), (3, .int 0), (0, .ref h0), (1, .int p1), (2, .int p2)]) hx hb dX9_alone_23 hl (by decide) rfl (fun ls hl => ?_)
      refine lv_aload_n hx hb dX9_alone_25 rfl (lv_at hl 2 rfl) ?_
      refine va_get (D := G.1) (ci := 9) (v := .ref (a0 3)) (C := RX9) (T := TX9) (N := 15) hx hb hts inlX9 hown hK hPD.1 0 rfl rfl 3 (by decide) (hts _ gw_424) (fun _ h9 => h9) rfl dX9_alone_26 ?_
      refine lv_aload_n hx hb dX9_alone_29 rfl (lv_at hl 2 rfl) ?_
      refine va_get (D := G.1) (ci := 9) (v := .ref (a0 2)) (C := RX9) (T := TX9) (N := 15) hx hb hts inlX9 hown hK hPD.1 0 rfl rfl 2 (by decide) (hts _ gw_353) (fun _ h9 => h9) rfl dX9_alone_30 ?_
      obtain ⟨q_2, hq_2, h⟩ := ob2 h
      refine kVV (As := [.ref (a0 2)]) (rest := []) C0 (kt_X6_copy l G (a0 3) a3 (a0 2) a2 f3 A3 f2 A2 hq_2) gi_V_X9_178_X6_copy (n := 1) rfl (by decide +kernel) rfl ⟨rfl, rfl, Nat.le_of_ble_eq_true rfl, Nat.le_of_ble_eq_true rfl⟩ hPD hS 12 6 rfl rfl rfl [12, 13, 14, 15, 16, 17, 6, 7, 8, 9, 10, 11] [0, 1, 2, 3, 4, 5, 18, 19, 20, 21, 22, 23, 24, 25, 26, 27, 28, 29, 30, 31, 32, 33, 34, 35, 36, 37, 38, 39, 40, 41, 42, 43, 44, 45] [0, 1, 2, 3, 4, 5, 40, 41, 42, 43, 44, 45, 34, 35, 36, 37, 38, 39, 6, 7, 8, 9, 10, 11, 12, 13, 14, 15, 16, 17, 18, 19, 20, 21, 22, 23, 24, 25, 26, 27, 28, 29, 30, 31, 32, 33] (wr := (wX9 G h0 a0 wk f0 A0 ++ (wX1 G (a0 1) a1 f1 A1 ++ (wB G (a0 5) g4 aB4 fB4 AB4 ++ (wX5 G (a0 6) a5 f5 A5 ++ (wX2 G (a0 11) a6 f6 A6)))))) (wN := (wX9 G h0 a0 wk f0 A0 ++ (wX1 G (a0 1) a1 f1 A1 ++ (wX6 G (a0 2) a2 f2 A2 ++ (wX6 G (a0 3) a3 q_2.2 q_2.1 ++ (wB G (a0 5) g4 aB4 fB4 AB4 ++ (wX5 G (a0 6) a5 f5 A5 ++ (wX2 G (a0 11) a6 f6 A6)))))))) rfl rfl rfl rfl rfl hl.1 (Nat.le_of_ble_eq_true rfl) dX9_alone_33 (fun H locs hPD hS => ?_)
      refine lv_iconst (v := 0) hx hb dX9_alone_36 (by decide) ?_
      refine lv_istore (lv' := [(5, .int 0), (4, .int 0), (3, .int 0), (0, .ref h0), (1, .int p1), (2, .int p2)]) hx hb dX9_alone_37 hl (by decide) rfl (fun ls hl => ?_)
      exact ww_f9_alone_l39 C0 NF q_2.1 q_2.2 A5 f5 A6 f6 0 0 0 h _ _ _ hPD hS (lv_sub hl [3, 4, 5, 2, 1, 0] rfl)
    · have h := (if_pos cc1).symm.trans h
      refine lv_iconst (v := (-1)) hx hb dX9_alone_18 (by decide) ?_
      obtain rfl := Option.some.inj h
      exact eI C0 hPD.1 hPD.2 hS rfl dX9_alone_19
abbrev rmX9_together : Room := { frames := 7, cells := 0, slots := 0, locals := 159 }
set_option maxRecDepth 100000 in
set_option maxHeartbeats 4000000 in
theorem ww_f9_together_b77  (C0 : Cx cX9_together 5 (some .int) RX9 p s m args meth c G DA) {h0 : Nat} {a0 : Nat → Nat} {wk : Option Nat} {a1 : Nat → Nat} {a2 : Nat → Nat} {a3 : Nat → Nat} {g4 : Nat → Nat} {aB4 : Nat → Nat → Nat} {a5 : Nat → Nat} {a6 : Nat → Nat} {f0 : Nat → Int32} {A0 : Nat → Nat → Int32} {f1 : Nat → Int32} {A1 : Nat → Nat → Int32} {f2 : Nat → Int32} {A2 : Nat → Nat → Int32} {fB4 : Nat → Nat → Int32} {AB4 : Nat → Nat → Nat → Int32} {p1 : Int32} {p2 : Int32} {p3 : Int32}  {k77 : (Nat → Nat → Int32) → (Nat → Int32) → (Nat → Nat → Int32) → (Nat → Int32) → (Nat → Nat → Int32) → (Nat → Int32) → Int32 → Option (Int32 × (Nat → Nat → Int32) × (Nat → Int32) × (Nat → Nat → Int32) × (Nat → Int32) × (Nat → Nat → Int32) × (Nat → Int32))} {res : Int32 × (Nat → Nat → Int32) × (Nat → Int32) × (Nat → Nat → Int32) × (Nat → Int32) × (Nat → Nat → Int32) × (Nat → Int32)}  (hk77 : ∀ (A3 : Nat → Nat → Int32) (f3 : Nat → Int32) (A5 : Nat → Nat → Int32) (f5 : Nat → Int32) (A6 : Nat → Nat → Int32) (f6 : Nat → Int32) (l4 : Int32), k77 A3 f3 A5 f5 A6 f6 l4 = some res → ∀ (H : Heap) (locs : List Loc) (ls : Array Slot), WD G DA (wX9 G h0 a0 wk f0 A0 ++ (wX1 G (a0 1) a1 f1 A1 ++ (wX6 G (a0 2) a2 f2 A2 ++ (wX6 G (a0 3) a3 f3 A3 ++ (wB G (a0 5) g4 aB4 fB4 AB4 ++ (wX5 G (a0 6) a5 f5 A5 ++ (wX2 G (a0 11) a6 f6 A6))))))) H → va_S DA s.heap H locs → lv_has ls 5 [(0, .ref h0), (1, .int p1), (2, .int p2), (3, .int p3), (4, .int l4)] → W p l e rmX9_together s m args below meth c H locs 0 0 (MQ below (QI G DA res.1 (wX9 G h0 a0 wk f0 A0 ++ (wX1 G (a0 1) a1 f1 A1 ++ (wX6 G (a0 2) a2 f2 A2 ++ (wX6 G (a0 3) a3 res.2.2.1 res.2.1 ++ (wB G (a0 5) g4 aB4 fB4 AB4 ++ (wX5 G (a0 6) a5 res.2.2.2.2.1 res.2.2.2.1 ++ (wX2 G (a0 11) a6 res.2.2.2.2.2.2 res.2.2.2.2.2.1)))))))) args s 0 0 DA) (F0 m 77 ls [])) : ∀ (A3 : Nat → Nat → Int32) (f3 : Nat → Int32) (A5 : Nat → Nat → Int32) (f5 : Nat → Int32) (A6 : Nat → Nat → Int32) (f6 : Nat → Int32) (l4 : Int32), f9_together_b77 f0 A0 f1 A1 f2 A2 fB4 AB4 p1 p2 p3  k77 A3 f3 A5 f5 A6 f6 l4 = some res → ∀ (H : Heap) (locs : List Loc) (ls : Array Slot), WD G DA (wX9 G h0 a0 wk f0 A0 ++ (wX1 G (a0 1) a1 f1 A1 ++ (wX6 G (a0 2) a2 f2 A2 ++ (wX6 G (a0 3) a3 f3 A3 ++ (wB G (a0 5) g4 aB4 fB4 AB4 ++ (wX5 G (a0 6) a5 f5 A5 ++ (wX2 G (a0 11) a6 f6 A6))))))) H → va_S DA s.heap H locs → lv_has ls 5 [(0, .ref h0), (1, .int p1), (2, .int p2), (3, .int p3), (4, .int l4)] → W p l e rmX9_together s m args below meth c H locs 0 0 (MQ below (QI G DA res.1 (wX9 G h0 a0 wk f0 A0 ++ (wX1 G (a0 1) a1 f1 A1 ++ (wX6 G (a0 2) a2 f2 A2 ++ (wX6 G (a0 3) a3 res.2.2.1 res.2.1 ++ (wB G (a0 5) g4 aB4 fB4 AB4 ++ (wX5 G (a0 6) a5 res.2.2.2.2.1 res.2.2.2.1 ++ (wX2 G (a0 11) a6 res.2.2.2.2.2.2 res.2.2.2.2.2.1)))))))) args s 0 0 DA) (F0 m 77 ls []) := by
  obtain ⟨hx, hb, hml, hown, hts⟩ := C0.1
  have hK := C0.2.2.2.1
  intro A3 f3 A5 f5 A6 f6 l4 h _ _ _ hPD hS hl
  unfold f9_together_b77 at h
  refine lv_iload hx hb dX9_together_77 (lv_at hl 4 rfl) ?_
  refine lv_iload_n hx hb dX9_together_79 rfl (lv_at hl 3 rfl) ?_
  refine lv_icmp_gt (tgt := 128) hx hb dX9_together_80 (by decide) (fun cc1 => ?_) (fun cc1 => ?_)
  · have h := (if_pos cc1).symm.trans h
    refine lv_bipush (v := (-2)) hx hb dX9_together_128 (by decide) ?_
    obtain rfl := Option.some.inj h
    exact eI C0 hPD.1 hPD.2 hS rfl dX9_together_130
  · have h := (if_neg cc1).symm.trans h
    refine lv_aload_n hx hb dX9_together_83 rfl (lv_at hl 0 rfl) ?_
    refine lv_aload_n hx hb dX9_together_84 rfl (lv_at hl 0 rfl) ?_
    refine va_get (D := G.1) (ci := 9) (v := .ref (a0 3)) (C := RX9) (T := TX9) (N := 15) hx hb hts inlX9 hown hK hPD.1 0 rfl rfl 3 (by decide) (hts _ gw_424) (fun _ h9 => h9) rfl dX9_together_85 ?_
    obtain ⟨q_3, hq_3, h⟩ := ob2 h
    refine kVI (As := [.ref (a0 3)]) (rest := []) C0 (kt_X9_passes l G h0 a0 wk a1 g4 aB4 a5 a6 (a0 3) a3 f0 A0 f1 A1 fB4 AB4 f5 A5 f6 A6 f3 A3 hq_3) gi_V_X9_168_X9_passes (n := 1) rfl (by decide +kernel) rfl ⟨rfl, rfl, Nat.le_of_ble_eq_true rfl, Nat.le_of_ble_eq_true rfl⟩ hPD hS 0 9 rfl rfl rfl [0, 1, 2, 3, 4, 5, 18, 19, 20, 21, 22, 23, 24, 25, 26, 27, 28, 29, 30, 31, 32, 33, 34, 35, 36, 37, 38, 39, 40, 41, 42, 43, 44, 45, 12, 13, 14, 15, 16, 17] [6, 7, 8, 9, 10, 11] [6, 7, 8, 9, 10, 11, 0, 1, 2, 3, 4, 5, 40, 41, 42, 43, 44, 45, 12, 13, 14, 15, 16, 17, 18, 19, 20, 21, 22, 23, 24, 25, 26, 27, 28, 29, 30, 31, 32, 33, 34, 35, 36, 37, 38, 39] (wr := (wX6 G (a0 2) a2 f2 A2)) (wN := (wX9 G h0 a0 wk f0 A0 ++ (wX1 G (a0 1) a1 f1 A1 ++ (wX6 G (a0 2) a2 f2 A2 ++ (wX6 G (a0 3) a3 q_3.2.2.2.2.2.2 q_3.2.2.2.2.2.1 ++ (wB G (a0 5) g4 aB4 fB4 AB4 ++ (wX5 G (a0 6) a5 q_3.2.2.1 q_3.2.1 ++ (wX2 G (a0 11) a6 q_3.2.2.2.2.1 q_3.2.2.2.1)))))))) rfl rfl rfl rfl rfl hl.1 (Nat.le_of_ble_eq_true rfl) dX9_together_88 (fun H locs hPD hS => ?_)
    refine lv_if_eq (tgt := 128) hx hb dX9_together_91 (by decide) (fun cc1 => ?_) (fun cc1 => ?_)
    · have h := (if_pos cc1).symm.trans h
      refine lv_bipush (v := (-2)) hx hb dX9_together_128 (by decide) ?_
      obtain rfl := Option.some.inj h
      exact eI C0 hPD.1 hPD.2 hS rfl dX9_together_130
    · have h := (if_neg cc1).symm.trans h
      refine lv_aload_n hx hb dX9_together_94 rfl (lv_at hl 0 rfl) ?_
      refine va_get (D := G.1) (ci := 9) (v := .ref (a0 3)) (C := RX9) (T := TX9) (N := 15) hx hb hts inlX9 hown hK hPD.1 0 rfl rfl 3 (by decide) (hts _ gw_424) (fun _ h9 => h9) rfl dX9_together_95 ?_
      refine va_get (D := G.1) (ci := 6) (v := .ref (a3 3)) (C := RX6) (T := TX6) (N := 10) hx hb hts inlX6 hown hK hPD.1 12 rfl rfl 3 (by decide) (hts _ gw_359) (fun _ h9 => h9) rfl dX9_together_98 ?_
      refine lv_iload_n hx hb dX9_together_101 rfl (lv_at hl 1 rfl) ?_
      refine kSI (As := [.ref (a3 3), .int p1]) (rest := []) C0 (kt_X9_at l G (a3 3) 8 (q_3.2.2.2.2.2.1 3) p1 (by decide)) gi_S_X9_188_X9_at (n := 2) rfl (by decide +kernel) ⟨rfl, rfl, Nat.le_of_ble_eq_true rfl, Nat.le_of_ble_eq_true rfl⟩ hPD hS [16] [0, 1, 2, 3, 4, 5, 6, 7, 8, 9, 10, 11, 12, 13, 14, 15, 17, 18, 19, 20, 21, 22, 23, 24, 25, 26, 27, 28, 29, 30, 31, 32, 33, 34, 35, 36, 37, 38, 39, 40, 41, 42, 43, 44, 45] [0, 1, 2, 3, 4, 5, 6, 7, 8, 9, 10, 11, 12, 13, 14, 15, 45, 16, 17, 18, 19, 20, 21, 22, 23, 24, 25, 26, 27, 28, 29, 30, 31, 32, 33, 34, 35, 36, 37, 38, 39, 40, 41, 42, 43, 44] (wr := pick (wX9 G h0 a0 wk f0 A0 ++ (wX1 G (a0 1) a1 f1 A1 ++ (wX6 G (a0 2) a2 f2 A2 ++ (wX6 G (a0 3) a3 q_3.2.2.2.2.2.2 q_3.2.2.2.2.2.1 ++ (wB G (a0 5) g4 aB4 fB4 AB4 ++ (wX5 G (a0 6) a5 q_3.2.2.1 q_3.2.1 ++ (wX2 G (a0 11) a6 q_3.2.2.2.2.1 q_3.2.2.2.1))))))) [0, 1, 2, 3, 4, 5, 6, 7, 8, 9, 10, 11, 12, 13, 14, 15, 17, 18, 19, 20, 21, 22, 23, 24, 25, 26, 27, 28, 29, 30, 31, 32, 33, 34, 35, 36, 37, 38, 39, 40, 41, 42, 43, 44, 45]) (wN := (wX9 G h0 a0 wk f0 A0 ++ (wX1 G (a0 1) a1 f1 A1 ++ (wX6 G (a0 2) a2 f2 A2 ++ (wX6 G (a0 3) a3 q_3.2.2.2.2.2.2 q_3.2.2.2.2.2.1 ++ (wB G (a0 5) g4 aB4 fB4 AB4 ++ (wX5 G (a0 6) a5 q_3.2.2.1 q_3.2.1 ++ (wX2 G (a0 11) a6 q_3.2.2.2.2.1 q_3.2.2.2.1)))))))) rfl rfl rfl rfl rfl hl.1 (Nat.le_of_ble_eq_true rfl) dX9_together_102 (fun H locs hPD hS => ?_)
      refine lv_aload_n hx hb dX9_together_105 rfl (lv_at hl 0 rfl) ?_
      refine va_get (D := G.1) (ci := 9) (v := .ref (a0 3)) (C := RX9) (T := TX9) (N := 15) hx hb hts inlX9 hown hK hPD.1 0 rfl rfl 3 (by decide) (hts _ gw_424) (fun _ h9 => h9) rfl dX9_together_106 ?_
      refine va_get (D := G.1) (ci := 6) (v := .ref (a3 3)) (C := RX6) (T := TX6) (N := 10) hx hb hts inlX6 hown hK hPD.1 12 rfl rfl 3 (by decide) (hts _ gw_359) (fun _ h9 => h9) rfl dX9_together_109 ?_
      refine lv_iload_n hx hb dX9_together_112 rfl (lv_at hl 2 rfl) ?_
      refine kSI (As := [.ref (a3 3), .int p2]) (rest := [.int (f9_at 8 (q_3.2.2.2.2.2.1 3) p1)]) C0 (kt_X9_at l G (a3 3) 8 (q_3.2.2.2.2.2.1 3) p2 (by decide)) gi_S_X9_188_X9_at (n := 2) rfl (by decide +kernel) ⟨rfl, rfl, Nat.le_of_ble_eq_true rfl, Nat.le_of_ble_eq_true rfl⟩ hPD hS [16] [0, 1, 2, 3, 4, 5, 6, 7, 8, 9, 10, 11, 12, 13, 14, 15, 17, 18, 19, 20, 21, 22, 23, 24, 25, 26, 27, 28, 29, 30, 31, 32, 33, 34, 35, 36, 37, 38, 39, 40, 41, 42, 43, 44, 45] [0, 1, 2, 3, 4, 5, 6, 7, 8, 9, 10, 11, 12, 13, 14, 15, 45, 16, 17, 18, 19, 20, 21, 22, 23, 24, 25, 26, 27, 28, 29, 30, 31, 32, 33, 34, 35, 36, 37, 38, 39, 40, 41, 42, 43, 44] (wr := pick (wX9 G h0 a0 wk f0 A0 ++ (wX1 G (a0 1) a1 f1 A1 ++ (wX6 G (a0 2) a2 f2 A2 ++ (wX6 G (a0 3) a3 q_3.2.2.2.2.2.2 q_3.2.2.2.2.2.1 ++ (wB G (a0 5) g4 aB4 fB4 AB4 ++ (wX5 G (a0 6) a5 q_3.2.2.1 q_3.2.1 ++ (wX2 G (a0 11) a6 q_3.2.2.2.2.1 q_3.2.2.2.1))))))) [0, 1, 2, 3, 4, 5, 6, 7, 8, 9, 10, 11, 12, 13, 14, 15, 17, 18, 19, 20, 21, 22, 23, 24, 25, 26, 27, 28, 29, 30, 31, 32, 33, 34, 35, 36, 37, 38, 39, 40, 41, 42, 43, 44, 45]) (wN := (wX9 G h0 a0 wk f0 A0 ++ (wX1 G (a0 1) a1 f1 A1 ++ (wX6 G (a0 2) a2 f2 A2 ++ (wX6 G (a0 3) a3 q_3.2.2.2.2.2.2 q_3.2.2.2.2.2.1 ++ (wB G (a0 5) g4 aB4 fB4 AB4 ++ (wX5 G (a0 6) a5 q_3.2.2.1 q_3.2.1 ++ (wX2 G (a0 11) a6 q_3.2.2.2.2.1 q_3.2.2.2.1)))))))) rfl rfl rfl rfl rfl hl.1 (Nat.le_of_ble_eq_true rfl) dX9_together_113 (fun H locs hPD hS => ?_)
      refine lv_icmp_ne (tgt := 122) hx hb dX9_together_116 (by decide) (fun cc1 => ?_) (fun cc1 => ?_)
      · have h := (if_neg cc1).symm.trans h
        refine lv_iinc (v := l4 + 1) (lv' := [(4, .int (l4 + 1)), (0, .ref h0), (1, .int p1), (2, .int p2), (3, .int p3)]) hx hb dX9_together_122 hl (k := 4) rfl rfl (by decide) rfl (fun ls hl => ?_)
        refine lv_goto (tgt := 77) hx hb dX9_together_125 (by decide) ?_
        exact hk77 q_3.2.2.2.2.2.1 q_3.2.2.2.2.2.2 q_3.2.1 q_3.2.2.1 q_3.2.2.2.1 q_3.2.2.2.2.1 (l4 + 1) h _ _ _ hPD hS (lv_sub hl [1, 2, 3, 4, 0] rfl)
      · have h := (if_pos cc1).symm.trans h
        refine lv_iload hx hb dX9_together_119 (lv_at hl 4 rfl) ?_
        obtain rfl := Option.some.inj h
        exact eI C0 hPD.1 hPD.2 hS rfl dX9_together_121
set_option maxRecDepth 100000 in
set_option maxHeartbeats 4000000 in
theorem ww_f9_together_l77  (C0 : Cx cX9_together 5 (some .int) RX9 p s m args meth c G DA) {h0 : Nat} {a0 : Nat → Nat} {wk : Option Nat} {a1 : Nat → Nat} {a2 : Nat → Nat} {a3 : Nat → Nat} {g4 : Nat → Nat} {aB4 : Nat → Nat → Nat} {a5 : Nat → Nat} {a6 : Nat → Nat} {f0 : Nat → Int32} {A0 : Nat → Nat → Int32} {f1 : Nat → Int32} {A1 : Nat → Nat → Int32} {f2 : Nat → Int32} {A2 : Nat → Nat → Int32} {fB4 : Nat → Nat → Int32} {AB4 : Nat → Nat → Nat → Int32} {p1 : Int32} {p2 : Int32} {p3 : Int32}   {res : Int32 × (Nat → Nat → Int32) × (Nat → Int32) × (Nat → Nat → Int32) × (Nat → Int32) × (Nat → Nat → Int32) × (Nat → Int32)}  : ∀ (n : Nat) (A3 : Nat → Nat → Int32) (f3 : Nat → Int32) (A5 : Nat → Nat → Int32) (f5 : Nat → Int32) (A6 : Nat → Nat → Int32) (f6 : Nat → Int32) (l4 : Int32), f9_together_l77 f0 A0 f1 A1 f2 A2 fB4 AB4 p1 p2 p3  n A3 f3 A5 f5 A6 f6 l4 = some res → ∀ (H : Heap) (locs : List Loc) (ls : Array Slot), WD G DA (wX9 G h0 a0 wk f0 A0 ++ (wX1 G (a0 1) a1 f1 A1 ++ (wX6 G (a0 2) a2 f2 A2 ++ (wX6 G (a0 3) a3 f3 A3 ++ (wB G (a0 5) g4 aB4 fB4 AB4 ++ (wX5 G (a0 6) a5 f5 A5 ++ (wX2 G (a0 11) a6 f6 A6))))))) H → va_S DA s.heap H locs → lv_has ls 5 [(0, .ref h0), (1, .int p1), (2, .int p2), (3, .int p3), (4, .int l4)] → W p l e rmX9_together s m args below meth c H locs 0 0 (MQ below (QI G DA res.1 (wX9 G h0 a0 wk f0 A0 ++ (wX1 G (a0 1) a1 f1 A1 ++ (wX6 G (a0 2) a2 f2 A2 ++ (wX6 G (a0 3) a3 res.2.2.1 res.2.1 ++ (wB G (a0 5) g4 aB4 fB4 AB4 ++ (wX5 G (a0 6) a5 res.2.2.2.2.1 res.2.2.2.1 ++ (wX2 G (a0 11) a6 res.2.2.2.2.2.2 res.2.2.2.2.2.1)))))))) args s 0 0 DA) (F0 m 77 ls []) := by
  intro n
  induction n with
  | zero => intro A3 f3 A5 f5 A6 f6 l4 h; cases h
  | succ n ih => intro A3 f3 A5 f5 A6 f6 l4 h; exact ww_f9_together_b77 C0  ih A3 f3 A5 f5 A6 f6 l4 h
set_option maxRecDepth 100000 in
set_option maxHeartbeats 4000000 in
theorem kt_X9_together (l : Launch) (G : Gp) (h0 : Nat) (a0 : Nat → Nat) (wk : Option Nat) (a1 : Nat → Nat) (a2 : Nat → Nat) (a3 : Nat → Nat) (g4 : Nat → Nat) (aB4 : Nat → Nat → Nat) (a5 : Nat → Nat) (a6 : Nat → Nat) (f0 : Nat → Int32) (A0 : Nat → Nat → Int32) (f1 : Nat → Int32) (A1 : Nat → Nat → Int32) (f2 : Nat → Int32) (A2 : Nat → Nat → Int32) (f3 : Nat → Int32) (A3 : Nat → Nat → Int32) (fB4 : Nat → Nat → Int32) (AB4 : Nat → Nat → Nat → Int32) (f5 : Nat → Int32) (A5 : Nat → Nat → Int32) (f6 : Nat → Int32) (A6 : Nat → Nat → Int32) (p1 : Int32) (p2 : Int32) (p3 : Int32) : ∀ {r : Int32 × (Nat → Nat → Int32) × (Nat → Int32) × (Nat → Nat → Int32) × (Nat → Int32) × (Nat → Nat → Int32) × (Nat → Int32)}, f9_together f0 A0 f1 A1 f2 A2 f3 A3 fB4 AB4 f5 A5 f6 A6 p1 p2 p3 = some r → CtrI l yX9_together cX9_together 5 (some .int) rmX9_together G [.ref h0, .int p1, .int p2, .int p3] (wX9 G h0 a0 wk f0 A0 ++ (wX1 G (a0 1) a1 f1 A1 ++ (wX6 G (a0 2) a2 f2 A2 ++ (wX6 G (a0 3) a3 f3 A3 ++ (wB G (a0 5) g4 aB4 fB4 AB4 ++ (wX5 G (a0 6) a5 f5 A5 ++ (wX2 G (a0 11) a6 f6 A6))))))) r.1 (wX9 G h0 a0 wk f0 A0 ++ (wX1 G (a0 1) a1 f1 A1 ++ (wX6 G (a0 2) a2 f2 A2 ++ (wX6 G (a0 3) a3 r.2.2.1 r.2.1 ++ (wB G (a0 5) g4 aB4 fB4 AB4 ++ (wX5 G (a0 6) a5 r.2.2.2.2.1 r.2.2.2.1 ++ (wX2 G (a0 11) a6 r.2.2.2.2.2.2 r.2.2.2.2.2.1))))))) := by
  intro res h
  refine ctrI_of (cc := cX9_together) (maxL := 5) (ret := (some .int)) (by decide +kernel) rfl (Nat.le_of_ble_eq_true rfl) (fun p e s m below meth c DA C0 hP hD ls hl => ?_)
  have hPD : WD G DA (wX9 G h0 a0 wk f0 A0 ++ (wX1 G (a0 1) a1 f1 A1 ++ (wX6 G (a0 2) a2 f2 A2 ++ (wX6 G (a0 3) a3 f3 A3 ++ (wB G (a0 5) g4 aB4 fB4 AB4 ++ (wX5 G (a0 6) a5 f5 A5 ++ (wX2 G (a0 11) a6 f6 A6))))))) s.heap := ⟨hP, hD⟩
  have hS : va_S DA s.heap s.heap [] := va_S.rf
  have hl : lv_has ls 5 [(0, .ref h0), (1, .int p1), (2, .int p2), (3, .int p3)] := hl
  obtain ⟨hx, hb, hml, hown, hts⟩ := C0.1
  have hK := C0.2.2.2.1
  unfold f9_together at h
  refine lv_aload_n hx hb dX9_together_0 rfl (lv_at hl 0 rfl) ?_
  refine va_get (D := G.1) (ci := 9) (v := .ref (a0 2)) (C := RX9) (T := TX9) (N := 15) hx hb hts inlX9 hown hK hPD.1 0 rfl rfl 2 (by decide) (hts _ gw_353) (fun _ h9 => h9) rfl dX9_together_1 ?_
  refine lv_iload_n hx hb dX9_together_4 rfl (lv_at hl 1 rfl) ?_
  refine kVI (As := [.int p1]) (rest := []) C0 (kt_X6_isTold l G (a0 2) a2 f2 A2 p1) gi_V_X9_195_X6_isTold (n := 1) rfl (by decide +kernel) rfl ⟨rfl, rfl, Nat.le_of_ble_eq_true rfl, Nat.le_of_ble_eq_true rfl⟩ hPD hS 6 6 rfl rfl rfl [6, 7, 8, 9, 10, 11] [0, 1, 2, 3, 4, 5, 12, 13, 14, 15, 16, 17, 18, 19, 20, 21, 22, 23, 24, 25, 26, 27, 28, 29, 30, 31, 32, 33, 34, 35, 36, 37, 38, 39, 40, 41, 42, 43, 44, 45] [0, 1, 2, 3, 4, 5, 40, 41, 42, 43, 44, 45, 6, 7, 8, 9, 10, 11, 12, 13, 14, 15, 16, 17, 18, 19, 20, 21, 22, 23, 24, 25, 26, 27, 28, 29, 30, 31, 32, 33, 34, 35, 36, 37, 38, 39] (wr := (wX9 G h0 a0 wk f0 A0 ++ (wX1 G (a0 1) a1 f1 A1 ++ (wX6 G (a0 3) a3 f3 A3 ++ (wB G (a0 5) g4 aB4 fB4 AB4 ++ (wX5 G (a0 6) a5 f5 A5 ++ (wX2 G (a0 11) a6 f6 A6))))))) (wN := (wX9 G h0 a0 wk f0 A0 ++ (wX1 G (a0 1) a1 f1 A1 ++ (wX6 G (a0 2) a2 f2 A2 ++ (wX6 G (a0 3) a3 f3 A3 ++ (wB G (a0 5) g4 aB4 fB4 AB4 ++ (wX5 G (a0 6) a5 f5 A5 ++ (wX2 G (a0 11) a6 f6 A6)))))))) rfl rfl rfl rfl rfl hl.1 (Nat.le_of_ble_eq_true rfl) dX9_together_5 (fun H locs hPD hS => ?_)
  refine lv_if_eq (tgt := 34) hx hb dX9_together_8 (by decide) (fun cc1 => ?_) (fun cc1 => ?_)
  · have h := (if_pos cc1).symm.trans h
    refine lv_iconst (v := (-1)) hx hb dX9_together_34 (by decide) ?_
    obtain rfl := Option.some.inj h
    exact eI C0 hPD.1 hPD.2 hS rfl dX9_together_35
  · have h := (if_neg cc1).symm.trans h
    refine lv_aload_n hx hb dX9_together_11 rfl (lv_at hl 0 rfl) ?_
    refine va_get (D := G.1) (ci := 9) (v := .ref (a0 2)) (C := RX9) (T := TX9) (N := 15) hx hb hts inlX9 hown hK hPD.1 0 rfl rfl 2 (by decide) (hts _ gw_353) (fun _ h9 => h9) rfl dX9_together_12 ?_
    refine lv_iload_n hx hb dX9_together_15 rfl (lv_at hl 2 rfl) ?_
    refine kVI (As := [.int p2]) (rest := []) C0 (kt_X6_isTold l G (a0 2) a2 f2 A2 p2) gi_V_X9_195_X6_isTold (n := 1) rfl (by decide +kernel) rfl ⟨rfl, rfl, Nat.le_of_ble_eq_true rfl, Nat.le_of_ble_eq_true rfl⟩ hPD hS 6 6 rfl rfl rfl [6, 7, 8, 9, 10, 11] [0, 1, 2, 3, 4, 5, 12, 13, 14, 15, 16, 17, 18, 19, 20, 21, 22, 23, 24, 25, 26, 27, 28, 29, 30, 31, 32, 33, 34, 35, 36, 37, 38, 39, 40, 41, 42, 43, 44, 45] [0, 1, 2, 3, 4, 5, 40, 41, 42, 43, 44, 45, 6, 7, 8, 9, 10, 11, 12, 13, 14, 15, 16, 17, 18, 19, 20, 21, 22, 23, 24, 25, 26, 27, 28, 29, 30, 31, 32, 33, 34, 35, 36, 37, 38, 39] (wr := (wX9 G h0 a0 wk f0 A0 ++ (wX1 G (a0 1) a1 f1 A1 ++ (wX6 G (a0 3) a3 f3 A3 ++ (wB G (a0 5) g4 aB4 fB4 AB4 ++ (wX5 G (a0 6) a5 f5 A5 ++ (wX2 G (a0 11) a6 f6 A6))))))) (wN := (wX9 G h0 a0 wk f0 A0 ++ (wX1 G (a0 1) a1 f1 A1 ++ (wX6 G (a0 2) a2 f2 A2 ++ (wX6 G (a0 3) a3 f3 A3 ++ (wB G (a0 5) g4 aB4 fB4 AB4 ++ (wX5 G (a0 6) a5 f5 A5 ++ (wX2 G (a0 11) a6 f6 A6)))))))) rfl rfl rfl rfl rfl hl.1 (Nat.le_of_ble_eq_true rfl) dX9_together_16 (fun H locs hPD hS => ?_)
    refine lv_if_eq (tgt := 34) hx hb dX9_together_19 (by decide) (fun cc1 => ?_) (fun cc1 => ?_)
    · have h := (if_pos cc1).symm.trans h
      refine lv_iconst (v := (-1)) hx hb dX9_together_34 (by decide) ?_
      obtain rfl := Option.some.inj h
      exact eI C0 hPD.1 hPD.2 hS rfl dX9_together_35
    · have h := (if_neg cc1).symm.trans h
      refine lv_iload_n hx hb dX9_together_22 rfl (lv_at hl 1 rfl) ?_
      refine lv_iload_n hx hb dX9_together_23 rfl (lv_at hl 2 rfl) ?_
      refine lv_icmp_eq (tgt := 34) hx hb dX9_together_24 (by decide) (fun cc1 => ?_) (fun cc1 => ?_)
      · have h := (if_pos cc1).symm.trans h
        refine lv_iconst (v := (-1)) hx hb dX9_together_34 (by decide) ?_
        obtain rfl := Option.some.inj h
        exact eI C0 hPD.1 hPD.2 hS rfl dX9_together_35
      · have h := (if_neg cc1).symm.trans h
        refine lv_iload_n hx hb dX9_together_27 rfl (lv_at hl 3 rfl) ?_
        obtain ⟨q_1, hq_1, h⟩ := ob2 h
        refine kSI (As := [.int p3]) (rest := []) C0 (kt_X9_isHours l G  p3 hq_1) gi_S_X9_165_X9_isHours (n := 1) rfl (by decide +kernel) ⟨rfl, rfl, Nat.le_of_ble_eq_true rfl, Nat.le_of_ble_eq_true rfl⟩ hPD hS [] [0, 1, 2, 3, 4, 5, 6, 7, 8, 9, 10, 11, 12, 13, 14, 15, 16, 17, 18, 19, 20, 21, 22, 23, 24, 25, 26, 27, 28, 29, 30, 31, 32, 33, 34, 35, 36, 37, 38, 39, 40, 41, 42, 43, 44, 45] [0, 1, 2, 3, 4, 5, 6, 7, 8, 9, 10, 11, 12, 13, 14, 15, 16, 17, 18, 19, 20, 21, 22, 23, 24, 25, 26, 27, 28, 29, 30, 31, 32, 33, 34, 35, 36, 37, 38, 39, 40, 41, 42, 43, 44, 45] (wr := (wX9 G h0 a0 wk f0 A0 ++ (wX1 G (a0 1) a1 f1 A1 ++ (wX6 G (a0 2) a2 f2 A2 ++ (wX6 G (a0 3) a3 f3 A3 ++ (wB G (a0 5) g4 aB4 fB4 AB4 ++ (wX5 G (a0 6) a5 f5 A5 ++ (wX2 G (a0 11) a6 f6 A6)))))))) (wN := (wX9 G h0 a0 wk f0 A0 ++ (wX1 G (a0 1) a1 f1 A1 ++ (wX6 G (a0 2) a2 f2 A2 ++ (wX6 G (a0 3) a3 f3 A3 ++ (wB G (a0 5) g4 aB4 fB4 AB4 ++ (wX5 G (a0 6) a5 f5 A5 ++ (wX2 G (a0 11) a6 f6 A6)))))))) rfl rfl rfl rfl rfl hl.1 (Nat.le_of_ble_eq_true rfl) dX9_together_28 (fun H locs hPD hS => ?_)
        refine lv_if_ne (tgt := 36) hx hb dX9_together_31 (by decide) (fun cc1 => ?_) (fun cc1 => ?_)
        · have h := (if_neg cc1).symm.trans h
          refine lv_aload_n hx hb dX9_together_36 rfl (lv_at hl 0 rfl) ?_
          refine va_get (D := G.1) (ci := 9) (v := .ref (a0 2)) (C := RX9) (T := TX9) (N := 15) hx hb hts inlX9 hown hK hPD.1 0 rfl rfl 2 (by decide) (hts _ gw_353) (fun _ h9 => h9) rfl dX9_together_37 ?_
          refine va_get (D := G.1) (ci := 6) (v := .ref (a2 3)) (C := RX6) (T := TX6) (N := 10) hx hb hts inlX6 hown hK hPD.1 6 rfl rfl 3 (by decide) (hts _ gw_359) (fun _ h9 => h9) rfl dX9_together_40 ?_
          refine lv_iload_n hx hb dX9_together_43 rfl (lv_at hl 1 rfl) ?_
          refine kSI (As := [.ref (a2 3), .int p1]) (rest := []) C0 (kt_X9_at l G (a2 3) 8 (A2 3) p1 (by decide)) gi_S_X9_188_X9_at (n := 2) rfl (by decide +kernel) ⟨rfl, rfl, Nat.le_of_ble_eq_true rfl, Nat.le_of_ble_eq_true rfl⟩ hPD hS [10] [0, 1, 2, 3, 4, 5, 6, 7, 8, 9, 11, 12, 13, 14, 15, 16, 17, 18, 19, 20, 21, 22, 23, 24, 25, 26, 27, 28, 29, 30, 31, 32, 33, 34, 35, 36, 37, 38, 39, 40, 41, 42, 43, 44, 45] [0, 1, 2, 3, 4, 5, 6, 7, 8, 9, 45, 10, 11, 12, 13, 14, 15, 16, 17, 18, 19, 20, 21, 22, 23, 24, 25, 26, 27, 28, 29, 30, 31, 32, 33, 34, 35, 36, 37, 38, 39, 40, 41, 42, 43, 44] (wr := pick (wX9 G h0 a0 wk f0 A0 ++ (wX1 G (a0 1) a1 f1 A1 ++ (wX6 G (a0 2) a2 f2 A2 ++ (wX6 G (a0 3) a3 f3 A3 ++ (wB G (a0 5) g4 aB4 fB4 AB4 ++ (wX5 G (a0 6) a5 f5 A5 ++ (wX2 G (a0 11) a6 f6 A6))))))) [0, 1, 2, 3, 4, 5, 6, 7, 8, 9, 11, 12, 13, 14, 15, 16, 17, 18, 19, 20, 21, 22, 23, 24, 25, 26, 27, 28, 29, 30, 31, 32, 33, 34, 35, 36, 37, 38, 39, 40, 41, 42, 43, 44, 45]) (wN := (wX9 G h0 a0 wk f0 A0 ++ (wX1 G (a0 1) a1 f1 A1 ++ (wX6 G (a0 2) a2 f2 A2 ++ (wX6 G (a0 3) a3 f3 A3 ++ (wB G (a0 5) g4 aB4 fB4 AB4 ++ (wX5 G (a0 6) a5 f5 A5 ++ (wX2 G (a0 11) a6 f6 A6)))))))) rfl rfl rfl rfl rfl hl.1 (Nat.le_of_ble_eq_true rfl) dX9_together_44 (fun H locs hPD hS => ?_)
          refine lv_aload_n hx hb dX9_together_47 rfl (lv_at hl 0 rfl) ?_
          refine va_get (D := G.1) (ci := 9) (v := .ref (a0 2)) (C := RX9) (T := TX9) (N := 15) hx hb hts inlX9 hown hK hPD.1 0 rfl rfl 2 (by decide) (hts _ gw_353) (fun _ h9 => h9) rfl dX9_together_48 ?_
          refine va_get (D := G.1) (ci := 6) (v := .ref (a2 3)) (C := RX6) (T := TX6) (N := 10) hx hb hts inlX6 hown hK hPD.1 6 rfl rfl 3 (by decide) (hts _ gw_359) (fun _ h9 => h9) rfl dX9_together_51 ?_
          refine lv_iload_n hx hb dX9_together_54 rfl (lv_at hl 2 rfl) ?_
          refine kSI (As := [.ref (a2 3), .int p2]) (rest := [.int (f9_at 8 (A2 3) p1)]) C0 (kt_X9_at l G (a2 3) 8 (A2 3) p2 (by decide)) gi_S_X9_188_X9_at (n := 2) rfl (by decide +kernel) ⟨rfl, rfl, Nat.le_of_ble_eq_true rfl, Nat.le_of_ble_eq_true rfl⟩ hPD hS [10] [0, 1, 2, 3, 4, 5, 6, 7, 8, 9, 11, 12, 13, 14, 15, 16, 17, 18, 19, 20, 21, 22, 23, 24, 25, 26, 27, 28, 29, 30, 31, 32, 33, 34, 35, 36, 37, 38, 39, 40, 41, 42, 43, 44, 45] [0, 1, 2, 3, 4, 5, 6, 7, 8, 9, 45, 10, 11, 12, 13, 14, 15, 16, 17, 18, 19, 20, 21, 22, 23, 24, 25, 26, 27, 28, 29, 30, 31, 32, 33, 34, 35, 36, 37, 38, 39, 40, 41, 42, 43, 44] (wr := pick (wX9 G h0 a0 wk f0 A0 ++ (wX1 G (a0 1) a1 f1 A1 ++ (wX6 G (a0 2) a2 f2 A2 ++ (wX6 G (a0 3) a3 f3 A3 ++ (wB G (a0 5) g4 aB4 fB4 AB4 ++ (wX5 G (a0 6) a5 f5 A5 ++ (wX2 G (a0 11) a6 f6 A6))))))) [0, 1, 2, 3, 4, 5, 6, 7, 8, 9, 11, 12, 13, 14, 15, 16, 17, 18, 19, 20, 21, 22, 23, 24, 25, 26, 27, 28, 29, 30, 31, 32, 33, 34, 35, 36, 37, 38, 39, 40, 41, 42, 43, 44, 45]) (wN := (wX9 G h0 a0 wk f0 A0 ++ (wX1 G (a0 1) a1 f1 A1 ++ (wX6 G (a0 2) a2 f2 A2 ++ (wX6 G (a0 3) a3 f3 A3 ++ (wB G (a0 5) g4 aB4 fB4 AB4 ++ (wX5 G (a0 6) a5 f5 A5 ++ (wX2 G (a0 11) a6 f6 A6)))))))) rfl rfl rfl rfl rfl hl.1 (Nat.le_of_ble_eq_true rfl) dX9_together_55 (fun H locs hPD hS => ?_)
          refine lv_icmp_ne (tgt := 63) hx hb dX9_together_58 (by decide) (fun cc1 => ?_) (fun cc1 => ?_)
          · have h := (if_neg cc1).symm.trans h
            refine lv_aload_n hx hb dX9_together_63 rfl (lv_at hl 0 rfl) ?_
            refine va_get (D := G.1) (ci := 9) (v := .ref (a0 3)) (C := RX9) (T := TX9) (N := 15) hx hb hts inlX9 hown hK hPD.1 0 rfl rfl 3 (by decide) (hts _ gw_424) (fun _ h9 => h9) rfl dX9_together_64 ?_
            refine lv_aload_n hx hb dX9_together_67 rfl (lv_at hl 0 rfl) ?_
            refine va_get (D := G.1) (ci := 9) (v := .ref (a0 2)) (C := RX9) (T := TX9) (N := 15) hx hb hts inlX9 hown hK hPD.1 0 rfl rfl 2 (by decide) (hts _ gw_353) (fun _ h9 => h9) rfl dX9_together_68 ?_
            obtain ⟨q_2, hq_2, h⟩ := ob2 h
            refine kVV (As := [.ref (a0 2)]) (rest := []) C0 (kt_X6_copy l G (a0 3) a3 (a0 2) a2 f3 A3 f2 A2 hq_2) gi_V_X9_178_X6_copy (n := 1) rfl (by decide +kernel) rfl ⟨rfl, rfl, Nat.le_of_ble_eq_true rfl, Nat.le_of_ble_eq_true rfl⟩ hPD hS 12 6 rfl rfl rfl [12, 13, 14, 15, 16, 17, 6, 7, 8, 9, 10, 11] [0, 1, 2, 3, 4, 5, 18, 19, 20, 21, 22, 23, 24, 25, 26, 27, 28, 29, 30, 31, 32, 33, 34, 35, 36, 37, 38, 39, 40, 41, 42, 43, 44, 45] [0, 1, 2, 3, 4, 5, 40, 41, 42, 43, 44, 45, 34, 35, 36, 37, 38, 39, 6, 7, 8, 9, 10, 11, 12, 13, 14, 15, 16, 17, 18, 19, 20, 21, 22, 23, 24, 25, 26, 27, 28, 29, 30, 31, 32, 33] (wr := (wX9 G h0 a0 wk f0 A0 ++ (wX1 G (a0 1) a1 f1 A1 ++ (wB G (a0 5) g4 aB4 fB4 AB4 ++ (wX5 G (a0 6) a5 f5 A5 ++ (wX2 G (a0 11) a6 f6 A6)))))) (wN := (wX9 G h0 a0 wk f0 A0 ++ (wX1 G (a0 1) a1 f1 A1 ++ (wX6 G (a0 2) a2 f2 A2 ++ (wX6 G (a0 3) a3 q_2.2 q_2.1 ++ (wB G (a0 5) g4 aB4 fB4 AB4 ++ (wX5 G (a0 6) a5 f5 A5 ++ (wX2 G (a0 11) a6 f6 A6)))))))) rfl rfl rfl rfl rfl hl.1 (Nat.le_of_ble_eq_true rfl) dX9_together_71 (fun H locs hPD hS => ?_)
            refine lv_iconst (v := 1) hx hb dX9_together_74 (by decide) ?_
            refine lv_istore (lv' := [(4, .int 1), (0, .ref h0), (1, .int p1), (2, .int p2), (3, .int p3)]) hx hb dX9_together_75 hl (by decide) rfl (fun ls hl => ?_)
            exact ww_f9_together_l77 C0 NF q_2.1 q_2.2 A5 f5 A6 f6 1 h _ _ _ hPD hS (lv_sub hl [1, 2, 3, 4, 0] rfl)
          · have h := (if_pos cc1).symm.trans h
            refine lv_iconst (v := 0) hx hb dX9_together_61 (by decide) ?_
            obtain rfl := Option.some.inj h
            exact eI C0 hPD.1 hPD.2 hS rfl dX9_together_62
        · have h := (if_pos cc1).symm.trans h
          refine lv_iconst (v := (-1)) hx hb dX9_together_34 (by decide) ?_
          obtain rfl := Option.some.inj h
          exact eI C0 hPD.1 hPD.2 hS rfl dX9_together_35
abbrev rmX9_seen : Room := { frames := 7, cells := 0, slots := 0, locals := 159 }
set_option maxRecDepth 100000 in
set_option maxHeartbeats 4000000 in
theorem ww_f9_seen_b24  (C0 : Cx cX9_seen 4 (some .int) RX9 p s m args meth c G DA) {h0 : Nat} {a0 : Nat → Nat} {wk : Option Nat} {a1 : Nat → Nat} {a2 : Nat → Nat} {a3 : Nat → Nat} {g4 : Nat → Nat} {aB4 : Nat → Nat → Nat} {a5 : Nat → Nat} {a6 : Nat → Nat} {f0 : Nat → Int32} {A0 : Nat → Nat → Int32} {f1 : Nat → Int32} {A1 : Nat → Nat → Int32} {f2 : Nat → Int32} {A2 : Nat → Nat → Int32} {fB4 : Nat → Nat → Int32} {AB4 : Nat → Nat → Nat → Int32} {p1 : Int32}  {k24 : (Nat → Nat → Int32) → (Nat → Int32) → (Nat → Nat → Int32) → (Nat → Int32) → (Nat → Nat → Int32) → (Nat → Int32) → Int32 → Int32 → Option (Int32 × (Nat → Nat → Int32) × (Nat → Int32) × (Nat → Nat → Int32) × (Nat → Int32) × (Nat → Nat → Int32) × (Nat → Int32))} {res : Int32 × (Nat → Nat → Int32) × (Nat → Int32) × (Nat → Nat → Int32) × (Nat → Int32) × (Nat → Nat → Int32) × (Nat → Int32)}  (hk24 : ∀ (A3 : Nat → Nat → Int32) (f3 : Nat → Int32) (A5 : Nat → Nat → Int32) (f5 : Nat → Int32) (A6 : Nat → Nat → Int32) (f6 : Nat → Int32) (l2 : Int32) (l3 : Int32), k24 A3 f3 A5 f5 A6 f6 l2 l3 = some res → ∀ (H : Heap) (locs : List Loc) (ls : Array Slot), WD G DA (wX9 G h0 a0 wk f0 A0 ++ (wX1 G (a0 1) a1 f1 A1 ++ (wX6 G (a0 2) a2 f2 A2 ++ (wX6 G (a0 3) a3 f3 A3 ++ (wB G (a0 5) g4 aB4 fB4 AB4 ++ (wX5 G (a0 6) a5 f5 A5 ++ (wX2 G (a0 11) a6 f6 A6))))))) H → va_S DA s.heap H locs → lv_has ls 4 [(0, .ref h0), (1, .int p1), (2, .int l2), (3, .int l3)] → W p l e rmX9_seen s m args below meth c H locs 0 0 (MQ below (QI G DA res.1 (wX9 G h0 a0 wk f0 A0 ++ (wX1 G (a0 1) a1 f1 A1 ++ (wX6 G (a0 2) a2 f2 A2 ++ (wX6 G (a0 3) a3 res.2.2.1 res.2.1 ++ (wB G (a0 5) g4 aB4 fB4 AB4 ++ (wX5 G (a0 6) a5 res.2.2.2.2.1 res.2.2.2.1 ++ (wX2 G (a0 11) a6 res.2.2.2.2.2.2 res.2.2.2.2.2.1)))))))) args s 0 0 DA) (F0 m 24 ls [])) : ∀ (A3 : Nat → Nat → Int32) (f3 : Nat → Int32) (A5 : Nat → Nat → Int32) (f5 : Nat → Int32) (A6 : Nat → Nat → Int32) (f6 : Nat → Int32) (l2 : Int32) (l3 : Int32), f9_seen_b24 f0 A0 f1 A1 f2 A2 fB4 AB4 p1  k24 A3 f3 A5 f5 A6 f6 l2 l3 = some res → ∀ (H : Heap) (locs : List Loc) (ls : Array Slot), WD G DA (wX9 G h0 a0 wk f0 A0 ++ (wX1 G (a0 1) a1 f1 A1 ++ (wX6 G (a0 2) a2 f2 A2 ++ (wX6 G (a0 3) a3 f3 A3 ++ (wB G (a0 5) g4 aB4 fB4 AB4 ++ (wX5 G (a0 6) a5 f5 A5 ++ (wX2 G (a0 11) a6 f6 A6))))))) H → va_S DA s.heap H locs → lv_has ls 4 [(0, .ref h0), (1, .int p1), (2, .int l2), (3, .int l3)] → W p l e rmX9_seen s m args below meth c H locs 0 0 (MQ below (QI G DA res.1 (wX9 G h0 a0 wk f0 A0 ++ (wX1 G (a0 1) a1 f1 A1 ++ (wX6 G (a0 2) a2 f2 A2 ++ (wX6 G (a0 3) a3 res.2.2.1 res.2.1 ++ (wB G (a0 5) g4 aB4 fB4 AB4 ++ (wX5 G (a0 6) a5 res.2.2.2.2.1 res.2.2.2.1 ++ (wX2 G (a0 11) a6 res.2.2.2.2.2.2 res.2.2.2.2.2.1)))))))) args s 0 0 DA) (F0 m 24 ls []) := by
  obtain ⟨hx, hb, hml, hown, hts⟩ := C0.1
  have hK := C0.2.2.2.1
  intro A3 f3 A5 f5 A6 f6 l2 l3 h _ _ _ hPD hS hl
  unfold f9_seen_b24 at h
  refine lv_iload_n hx hb dX9_seen_24 rfl (lv_at hl 3 rfl) ?_
  refine lv_iload_n hx hb dX9_seen_25 rfl (lv_at hl 1 rfl) ?_
  refine lv_icmp_ge (tgt := 56) hx hb dX9_seen_26 (by decide) (fun cc1 => ?_) (fun cc1 => ?_)
  · have h := (if_pos cc1).symm.trans h
    refine lv_iload_n hx hb dX9_seen_56 rfl (lv_at hl 2 rfl) ?_
    obtain rfl := Option.some.inj h
    exact eI C0 hPD.1 hPD.2 hS rfl dX9_seen_57
  · have h := (if_neg cc1).symm.trans h
    refine lv_aload_n hx hb dX9_seen_29 rfl (lv_at hl 0 rfl) ?_
    refine lv_aload_n hx hb dX9_seen_30 rfl (lv_at hl 0 rfl) ?_
    refine va_get (D := G.1) (ci := 9) (v := .ref (a0 3)) (C := RX9) (T := TX9) (N := 15) hx hb hts inlX9 hown hK hPD.1 0 rfl rfl 3 (by decide) (hts _ gw_424) (fun _ h9 => h9) rfl dX9_seen_31 ?_
    obtain ⟨q_3, hq_3, h⟩ := ob2 h
    refine kVI (As := [.ref (a0 3)]) (rest := []) C0 (kt_X9_passes l G h0 a0 wk a1 g4 aB4 a5 a6 (a0 3) a3 f0 A0 f1 A1 fB4 AB4 f5 A5 f6 A6 f3 A3 hq_3) gi_V_X9_168_X9_passes (n := 1) rfl (by decide +kernel) rfl ⟨rfl, rfl, Nat.le_of_ble_eq_true rfl, Nat.le_of_ble_eq_true rfl⟩ hPD hS 0 9 rfl rfl rfl [0, 1, 2, 3, 4, 5, 18, 19, 20, 21, 22, 23, 24, 25, 26, 27, 28, 29, 30, 31, 32, 33, 34, 35, 36, 37, 38, 39, 40, 41, 42, 43, 44, 45, 12, 13, 14, 15, 16, 17] [6, 7, 8, 9, 10, 11] [6, 7, 8, 9, 10, 11, 0, 1, 2, 3, 4, 5, 40, 41, 42, 43, 44, 45, 12, 13, 14, 15, 16, 17, 18, 19, 20, 21, 22, 23, 24, 25, 26, 27, 28, 29, 30, 31, 32, 33, 34, 35, 36, 37, 38, 39] (wr := (wX6 G (a0 2) a2 f2 A2)) (wN := (wX9 G h0 a0 wk f0 A0 ++ (wX1 G (a0 1) a1 f1 A1 ++ (wX6 G (a0 2) a2 f2 A2 ++ (wX6 G (a0 3) a3 q_3.2.2.2.2.2.2 q_3.2.2.2.2.2.1 ++ (wB G (a0 5) g4 aB4 fB4 AB4 ++ (wX5 G (a0 6) a5 q_3.2.2.1 q_3.2.1 ++ (wX2 G (a0 11) a6 q_3.2.2.2.2.1 q_3.2.2.2.1)))))))) rfl rfl rfl rfl rfl hl.1 (Nat.le_of_ble_eq_true rfl) dX9_seen_34 (fun H locs hPD hS => ?_)
    refine lv_if_eq (tgt := 56) hx hb dX9_seen_37 (by decide) (fun cc1 => ?_) (fun cc1 => ?_)
    · have h := (if_pos cc1).symm.trans h
      refine lv_iload_n hx hb dX9_seen_56 rfl (lv_at hl 2 rfl) ?_
      obtain rfl := Option.some.inj h
      exact eI C0 hPD.1 hPD.2 hS rfl dX9_seen_57
    · have h := (if_neg cc1).symm.trans h
      refine lv_iload_n hx hb dX9_seen_40 rfl (lv_at hl 2 rfl) ?_
      refine lv_aload_n hx hb dX9_seen_41 rfl (lv_at hl 0 rfl) ?_
      refine va_get (D := G.1) (ci := 9) (v := .ref (a0 3)) (C := RX9) (T := TX9) (N := 15) hx hb hts inlX9 hown hK hPD.1 0 rfl rfl 3 (by decide) (hts _ gw_424) (fun _ h9 => h9) rfl dX9_seen_42 ?_
      obtain ⟨q_4, hq_4, h⟩ := ob2 h
      refine kVI (As := []) (rest := [.int l2]) C0 (kt_X6_stoodAt l G (a0 3) a3 q_3.2.2.2.2.2.2 q_3.2.2.2.2.2.1 hq_4) gi_V_X9_205_X6_stoodAt (n := 0) rfl (by decide +kernel) rfl ⟨rfl, rfl, Nat.le_of_ble_eq_true rfl, Nat.le_of_ble_eq_true rfl⟩ hPD hS 12 6 rfl rfl rfl [12, 13, 14, 15, 16, 17] [0, 1, 2, 3, 4, 5, 6, 7, 8, 9, 10, 11, 18, 19, 20, 21, 22, 23, 24, 25, 26, 27, 28, 29, 30, 31, 32, 33, 34, 35, 36, 37, 38, 39, 40, 41, 42, 43, 44, 45] [0, 1, 2, 3, 4, 5, 6, 7, 8, 9, 10, 11, 40, 41, 42, 43, 44, 45, 12, 13, 14, 15, 16, 17, 18, 19, 20, 21, 22, 23, 24, 25, 26, 27, 28, 29, 30, 31, 32, 33, 34, 35, 36, 37, 38, 39] (wr := (wX9 G h0 a0 wk f0 A0 ++ (wX1 G (a0 1) a1 f1 A1 ++ (wX6 G (a0 2) a2 f2 A2 ++ (wB G (a0 5) g4 aB4 fB4 AB4 ++ (wX5 G (a0 6) a5 q_3.2.2.1 q_3.2.1 ++ (wX2 G (a0 11) a6 q_3.2.2.2.2.1 q_3.2.2.2.1))))))) (wN := (wX9 G h0 a0 wk f0 A0 ++ (wX1 G (a0 1) a1 f1 A1 ++ (wX6 G (a0 2) a2 f2 A2 ++ (wX6 G (a0 3) a3 q_3.2.2.2.2.2.2 q_3.2.2.2.2.2.1 ++ (wB G (a0 5) g4 aB4 fB4 AB4 ++ (wX5 G (a0 6) a5 q_3.2.2.1 q_3.2.1 ++ (wX2 G (a0 11) a6 q_3.2.2.2.2.1 q_3.2.2.2.1)))))))) rfl rfl rfl rfl rfl hl.1 (Nat.le_of_ble_eq_true rfl) dX9_seen_45 (fun H locs hPD hS => ?_)
      refine lv_ior hx hb dX9_seen_48 ?_
      refine lv_istore_n (lv' := [(2, .int (l2 ||| q_4)), (0, .ref h0), (1, .int p1), (3, .int l3)]) hx hb dX9_seen_49 rfl hl (by decide) rfl (fun ls hl => ?_)
      refine lv_iinc (v := l3 + 1) (lv' := [(3, .int (l3 + 1)), (2, .int (l2 ||| q_4)), (0, .ref h0), (1, .int p1)]) hx hb dX9_seen_50 hl (k := 3) rfl rfl (by decide) rfl (fun ls hl => ?_)
      refine lv_goto (tgt := 24) hx hb dX9_seen_53 (by decide) ?_
      exact hk24 q_3.2.2.2.2.2.1 q_3.2.2.2.2.2.2 q_3.2.1 q_3.2.2.1 q_3.2.2.2.1 q_3.2.2.2.2.1 (l2 ||| q_4) (l3 + 1) h _ _ _ hPD hS (lv_sub hl [2, 3, 1, 0] rfl)
set_option maxRecDepth 100000 in
set_option maxHeartbeats 4000000 in
theorem ww_f9_seen_l24  (C0 : Cx cX9_seen 4 (some .int) RX9 p s m args meth c G DA) {h0 : Nat} {a0 : Nat → Nat} {wk : Option Nat} {a1 : Nat → Nat} {a2 : Nat → Nat} {a3 : Nat → Nat} {g4 : Nat → Nat} {aB4 : Nat → Nat → Nat} {a5 : Nat → Nat} {a6 : Nat → Nat} {f0 : Nat → Int32} {A0 : Nat → Nat → Int32} {f1 : Nat → Int32} {A1 : Nat → Nat → Int32} {f2 : Nat → Int32} {A2 : Nat → Nat → Int32} {fB4 : Nat → Nat → Int32} {AB4 : Nat → Nat → Nat → Int32} {p1 : Int32}   {res : Int32 × (Nat → Nat → Int32) × (Nat → Int32) × (Nat → Nat → Int32) × (Nat → Int32) × (Nat → Nat → Int32) × (Nat → Int32)}  : ∀ (n : Nat) (A3 : Nat → Nat → Int32) (f3 : Nat → Int32) (A5 : Nat → Nat → Int32) (f5 : Nat → Int32) (A6 : Nat → Nat → Int32) (f6 : Nat → Int32) (l2 : Int32) (l3 : Int32), f9_seen_l24 f0 A0 f1 A1 f2 A2 fB4 AB4 p1  n A3 f3 A5 f5 A6 f6 l2 l3 = some res → ∀ (H : Heap) (locs : List Loc) (ls : Array Slot), WD G DA (wX9 G h0 a0 wk f0 A0 ++ (wX1 G (a0 1) a1 f1 A1 ++ (wX6 G (a0 2) a2 f2 A2 ++ (wX6 G (a0 3) a3 f3 A3 ++ (wB G (a0 5) g4 aB4 fB4 AB4 ++ (wX5 G (a0 6) a5 f5 A5 ++ (wX2 G (a0 11) a6 f6 A6))))))) H → va_S DA s.heap H locs → lv_has ls 4 [(0, .ref h0), (1, .int p1), (2, .int l2), (3, .int l3)] → W p l e rmX9_seen s m args below meth c H locs 0 0 (MQ below (QI G DA res.1 (wX9 G h0 a0 wk f0 A0 ++ (wX1 G (a0 1) a1 f1 A1 ++ (wX6 G (a0 2) a2 f2 A2 ++ (wX6 G (a0 3) a3 res.2.2.1 res.2.1 ++ (wB G (a0 5) g4 aB4 fB4 AB4 ++ (wX5 G (a0 6) a5 res.2.2.2.2.1 res.2.2.2.1 ++ (wX2 G (a0 11) a6 res.2.2.2.2.2.2 res.2.2.2.2.2.1)))))))) args s 0 0 DA) (F0 m 24 ls []) := by
  intro n
  induction n with
  | zero => intro A3 f3 A5 f5 A6 f6 l2 l3 h; cases h
  | succ n ih => intro A3 f3 A5 f5 A6 f6 l2 l3 h; exact ww_f9_seen_b24 C0  ih A3 f3 A5 f5 A6 f6 l2 l3 h
set_option maxRecDepth 100000 in
set_option maxHeartbeats 4000000 in
theorem kt_X9_seen (l : Launch) (G : Gp) (h0 : Nat) (a0 : Nat → Nat) (wk : Option Nat) (a1 : Nat → Nat) (a2 : Nat → Nat) (a3 : Nat → Nat) (g4 : Nat → Nat) (aB4 : Nat → Nat → Nat) (a5 : Nat → Nat) (a6 : Nat → Nat) (f0 : Nat → Int32) (A0 : Nat → Nat → Int32) (f1 : Nat → Int32) (A1 : Nat → Nat → Int32) (f2 : Nat → Int32) (A2 : Nat → Nat → Int32) (f3 : Nat → Int32) (A3 : Nat → Nat → Int32) (fB4 : Nat → Nat → Int32) (AB4 : Nat → Nat → Nat → Int32) (f5 : Nat → Int32) (A5 : Nat → Nat → Int32) (f6 : Nat → Int32) (A6 : Nat → Nat → Int32) (p1 : Int32) : ∀ {r : Int32 × (Nat → Nat → Int32) × (Nat → Int32) × (Nat → Nat → Int32) × (Nat → Int32) × (Nat → Nat → Int32) × (Nat → Int32)}, f9_seen f0 A0 f1 A1 f2 A2 f3 A3 fB4 AB4 f5 A5 f6 A6 p1 = some r → CtrI l yX9_seen cX9_seen 4 (some .int) rmX9_seen G [.ref h0, .int p1] (wX9 G h0 a0 wk f0 A0 ++ (wX1 G (a0 1) a1 f1 A1 ++ (wX6 G (a0 2) a2 f2 A2 ++ (wX6 G (a0 3) a3 f3 A3 ++ (wB G (a0 5) g4 aB4 fB4 AB4 ++ (wX5 G (a0 6) a5 f5 A5 ++ (wX2 G (a0 11) a6 f6 A6))))))) r.1 (wX9 G h0 a0 wk f0 A0 ++ (wX1 G (a0 1) a1 f1 A1 ++ (wX6 G (a0 2) a2 f2 A2 ++ (wX6 G (a0 3) a3 r.2.2.1 r.2.1 ++ (wB G (a0 5) g4 aB4 fB4 AB4 ++ (wX5 G (a0 6) a5 r.2.2.2.2.1 r.2.2.2.1 ++ (wX2 G (a0 11) a6 r.2.2.2.2.2.2 r.2.2.2.2.2.1))))))) := by
  intro res h
  refine ctrI_of (cc := cX9_seen) (maxL := 4) (ret := (some .int)) (by decide +kernel) rfl (Nat.le_of_ble_eq_true rfl) (fun p e s m below meth c DA C0 hP hD ls hl => ?_)
  have hPD : WD G DA (wX9 G h0 a0 wk f0 A0 ++ (wX1 G (a0 1) a1 f1 A1 ++ (wX6 G (a0 2) a2 f2 A2 ++ (wX6 G (a0 3) a3 f3 A3 ++ (wB G (a0 5) g4 aB4 fB4 AB4 ++ (wX5 G (a0 6) a5 f5 A5 ++ (wX2 G (a0 11) a6 f6 A6))))))) s.heap := ⟨hP, hD⟩
  have hS : va_S DA s.heap s.heap [] := va_S.rf
  have hl : lv_has ls 4 [(0, .ref h0), (1, .int p1)] := hl
  obtain ⟨hx, hb, hml, hown, hts⟩ := C0.1
  have hK := C0.2.2.2.1
  unfold f9_seen at h
  refine lv_iload_n hx hb dX9_seen_0 rfl (lv_at hl 1 rfl) ?_
  obtain ⟨q_1, hq_1, h⟩ := ob2 h
  refine kSI (As := [.int p1]) (rest := []) C0 (kt_X9_isHours l G  p1 hq_1) gi_S_X9_165_X9_isHours (n := 1) rfl (by decide +kernel) ⟨rfl, rfl, Nat.le_of_ble_eq_true rfl, Nat.le_of_ble_eq_true rfl⟩ hPD hS [] [0, 1, 2, 3, 4, 5, 6, 7, 8, 9, 10, 11, 12, 13, 14, 15, 16, 17, 18, 19, 20, 21, 22, 23, 24, 25, 26, 27, 28, 29, 30, 31, 32, 33, 34, 35, 36, 37, 38, 39, 40, 41, 42, 43, 44, 45] [0, 1, 2, 3, 4, 5, 6, 7, 8, 9, 10, 11, 12, 13, 14, 15, 16, 17, 18, 19, 20, 21, 22, 23, 24, 25, 26, 27, 28, 29, 30, 31, 32, 33, 34, 35, 36, 37, 38, 39, 40, 41, 42, 43, 44, 45] (wr := (wX9 G h0 a0 wk f0 A0 ++ (wX1 G (a0 1) a1 f1 A1 ++ (wX6 G (a0 2) a2 f2 A2 ++ (wX6 G (a0 3) a3 f3 A3 ++ (wB G (a0 5) g4 aB4 fB4 AB4 ++ (wX5 G (a0 6) a5 f5 A5 ++ (wX2 G (a0 11) a6 f6 A6)))))))) (wN := (wX9 G h0 a0 wk f0 A0 ++ (wX1 G (a0 1) a1 f1 A1 ++ (wX6 G (a0 2) a2 f2 A2 ++ (wX6 G (a0 3) a3 f3 A3 ++ (wB G (a0 5) g4 aB4 fB4 AB4 ++ (wX5 G (a0 6) a5 f5 A5 ++ (wX2 G (a0 11) a6 f6 A6)))))))) rfl rfl rfl rfl rfl hl.1 (Nat.le_of_ble_eq_true rfl) dX9_seen_1 (fun H locs hPD hS => ?_)
  refine lv_if_ne (tgt := 9) hx hb dX9_seen_4 (by decide) (fun cc1 => ?_) (fun cc1 => ?_)
  · have h := (if_neg cc1).symm.trans h
    refine lv_iconst (v := 0) hx hb dX9_seen_9 (by decide) ?_
    refine lv_istore_n (lv' := [(2, .int 0), (0, .ref h0), (1, .int p1)]) hx hb dX9_seen_10 rfl hl (by decide) rfl (fun ls hl => ?_)
    refine lv_aload_n hx hb dX9_seen_11 rfl (lv_at hl 1 rfl) ?_
    refine va_get (D := G.1) (ci := 9) (v := .ref (a0 3)) (C := RX9) (T := TX9) (N := 15) hx hb hts inlX9 hown hK hPD.1 0 rfl rfl 3 (by decide) (hts _ gw_424) (fun _ h9 => h9) rfl dX9_seen_12 ?_
    refine lv_aload_n hx hb dX9_seen_15 rfl (lv_at hl 1 rfl) ?_
    refine va_get (D := G.1) (ci := 9) (v := .ref (a0 2)) (C := RX9) (T := TX9) (N := 15) hx hb hts inlX9 hown hK hPD.1 0 rfl rfl 2 (by decide) (hts _ gw_353) (fun _ h9 => h9) rfl dX9_seen_16 ?_
    obtain ⟨q_2, hq_2, h⟩ := ob2 h
    refine kVV (As := [.ref (a0 2)]) (rest := []) C0 (kt_X6_copy l G (a0 3) a3 (a0 2) a2 f3 A3 f2 A2 hq_2) gi_V_X9_178_X6_copy (n := 1) rfl (by decide +kernel) rfl ⟨rfl, rfl, Nat.le_of_ble_eq_true rfl, Nat.le_of_ble_eq_true rfl⟩ hPD hS 12 6 rfl rfl rfl [12, 13, 14, 15, 16, 17, 6, 7, 8, 9, 10, 11] [0, 1, 2, 3, 4, 5, 18, 19, 20, 21, 22, 23, 24, 25, 26, 27, 28, 29, 30, 31, 32, 33, 34, 35, 36, 37, 38, 39, 40, 41, 42, 43, 44, 45] [0, 1, 2, 3, 4, 5, 40, 41, 42, 43, 44, 45, 34, 35, 36, 37, 38, 39, 6, 7, 8, 9, 10, 11, 12, 13, 14, 15, 16, 17, 18, 19, 20, 21, 22, 23, 24, 25, 26, 27, 28, 29, 30, 31, 32, 33] (wr := (wX9 G h0 a0 wk f0 A0 ++ (wX1 G (a0 1) a1 f1 A1 ++ (wB G (a0 5) g4 aB4 fB4 AB4 ++ (wX5 G (a0 6) a5 f5 A5 ++ (wX2 G (a0 11) a6 f6 A6)))))) (wN := (wX9 G h0 a0 wk f0 A0 ++ (wX1 G (a0 1) a1 f1 A1 ++ (wX6 G (a0 2) a2 f2 A2 ++ (wX6 G (a0 3) a3 q_2.2 q_2.1 ++ (wB G (a0 5) g4 aB4 fB4 AB4 ++ (wX5 G (a0 6) a5 f5 A5 ++ (wX2 G (a0 11) a6 f6 A6)))))))) rfl rfl rfl rfl rfl hl.1 (Nat.le_of_ble_eq_true rfl) dX9_seen_19 (fun H locs hPD hS => ?_)
    refine lv_iconst (v := 0) hx hb dX9_seen_22 (by decide) ?_
    refine lv_istore_n (lv' := [(3, .int 0), (2, .int 0), (0, .ref h0), (1, .int p1)]) hx hb dX9_seen_23 rfl hl (by decide) rfl (fun ls hl => ?_)
    exact ww_f9_seen_l24 C0 NF q_2.1 q_2.2 A5 f5 A6 f6 0 0 h _ _ _ hPD hS (lv_sub hl [2, 3, 1, 0] rfl)
  · have h := (if_pos cc1).symm.trans h
    refine lv_iconst (v := (-1)) hx hb dX9_seen_7 (by decide) ?_
    obtain rfl := Option.some.inj h
    exact eI C0 hPD.1 hPD.2 hS rfl dX9_seen_8
abbrev rmX9_quiet : Room := { frames := 7, cells := 0, slots := 0, locals := 159 }
set_option maxRecDepth 100000 in
set_option maxHeartbeats 4000000 in
theorem ww_f9_quiet_b61  (C0 : Cx cX9_quiet 5 (some .int) RX9 p s m args meth c G DA) {h0 : Nat} {a0 : Nat → Nat} {wk : Option Nat} {a1 : Nat → Nat} {a2 : Nat → Nat} {a3 : Nat → Nat} {g4 : Nat → Nat} {aB4 : Nat → Nat → Nat} {a5 : Nat → Nat} {a6 : Nat → Nat} {f0 : Nat → Int32} {A0 : Nat → Nat → Int32} {f1 : Nat → Int32} {A1 : Nat → Nat → Int32} {f2 : Nat → Int32} {A2 : Nat → Nat → Int32} {fB4 : Nat → Nat → Int32} {AB4 : Nat → Nat → Nat → Int32} {p1 : Int32}  {k27 : (Nat → Nat → Int32) → (Nat → Int32) → (Nat → Nat → Int32) → (Nat → Int32) → (Nat → Nat → Int32) → (Nat → Int32) → Int32 → Int32 → Int32 → Option (Int32 × (Nat → Nat → Int32) × (Nat → Int32) × (Nat → Nat → Int32) × (Nat → Int32) × (Nat → Nat → Int32) × (Nat → Int32))} {res : Int32 × (Nat → Nat → Int32) × (Nat → Int32) × (Nat → Nat → Int32) × (Nat → Int32) × (Nat → Nat → Int32) × (Nat → Int32)} (hk27 : ∀ (A3 : Nat → Nat → Int32) (f3 : Nat → Int32) (A5 : Nat → Nat → Int32) (f5 : Nat → Int32) (A6 : Nat → Nat → Int32) (f6 : Nat → Int32) (l2 : Int32) (l3 : Int32) (l4 : Int32), k27 A3 f3 A5 f5 A6 f6 l2 l3 l4 = some res → ∀ (H : Heap) (locs : List Loc) (ls : Array Slot), WD G DA (wX9 G h0 a0 wk f0 A0 ++ (wX1 G (a0 1) a1 f1 A1 ++ (wX6 G (a0 2) a2 f2 A2 ++ (wX6 G (a0 3) a3 f3 A3 ++ (wB G (a0 5) g4 aB4 fB4 AB4 ++ (wX5 G (a0 6) a5 f5 A5 ++ (wX2 G (a0 11) a6 f6 A6))))))) H → va_S DA s.heap H locs → lv_has ls 5 [(0, .ref h0), (1, .int p1), (2, .int l2), (3, .int l3), (4, .int l4)] → W p l e rmX9_quiet s m args below meth c H locs 0 0 (MQ below (QI G DA res.1 (wX9 G h0 a0 wk f0 A0 ++ (wX1 G (a0 1) a1 f1 A1 ++ (wX6 G (a0 2) a2 f2 A2 ++ (wX6 G (a0 3) a3 res.2.2.1 res.2.1 ++ (wB G (a0 5) g4 aB4 fB4 AB4 ++ (wX5 G (a0 6) a5 res.2.2.2.2.1 res.2.2.2.1 ++ (wX2 G (a0 11) a6 res.2.2.2.2.2.2 res.2.2.2.2.2.1)))))))) args s 0 0 DA) (F0 m 27 ls [])) : ∀ (A3 : Nat → Nat → Int32) (f3 : Nat → Int32) (A5 : Nat → Nat → Int32) (f5 : Nat → Int32) (A6 : Nat → Nat → Int32) (f6 : Nat → Int32) (l2 : Int32) (l4 : Int32) (s0 : Int32), f9_quiet_b61 f0 A0 f1 A1 f2 A2 fB4 AB4 p1 k27 A3 f3 A5 f5 A6 f6 l2 l4 s0 = some res → ∀ (H : Heap) (locs : List Loc) (ls : Array Slot), WD G DA (wX9 G h0 a0 wk f0 A0 ++ (wX1 G (a0 1) a1 f1 A1 ++ (wX6 G (a0 2) a2 f2 A2 ++ (wX6 G (a0 3) a3 f3 A3 ++ (wB G (a0 5) g4 aB4 fB4 AB4 ++ (wX5 G (a0 6) a5 f5 A5 ++ (wX2 G (a0 11) a6 f6 A6))))))) H → va_S DA s.heap H locs → lv_has ls 5 [(0, .ref h0), (1, .int p1), (2, .int l2), (4, .int l4)] → W p l e rmX9_quiet s m args below meth c H locs 0 0 (MQ below (QI G DA res.1 (wX9 G h0 a0 wk f0 A0 ++ (wX1 G (a0 1) a1 f1 A1 ++ (wX6 G (a0 2) a2 f2 A2 ++ (wX6 G (a0 3) a3 res.2.2.1 res.2.1 ++ (wB G (a0 5) g4 aB4 fB4 AB4 ++ (wX5 G (a0 6) a5 res.2.2.2.2.1 res.2.2.2.1 ++ (wX2 G (a0 11) a6 res.2.2.2.2.2.2 res.2.2.2.2.2.1)))))))) args s 0 0 DA) (F0 m 61 ls [.int s0]) := by
  obtain ⟨hx, hb, hml, hown, hts⟩ := C0.1
  have hK := C0.2.2.2.1
  intro A3 f3 A5 f5 A6 f6 l2 l4 s0 h _ _ _ hPD hS hl
  unfold f9_quiet_b61 at h
  refine lv_istore_n (lv' := [(3, .int s0), (0, .ref h0), (1, .int p1), (2, .int l2), (4, .int l4)]) hx hb dX9_quiet_61 rfl hl (by decide) rfl (fun ls hl => ?_)
  refine lv_iload_n hx hb dX9_quiet_62 rfl (lv_at hl 3 rfl) ?_
  refine lv_iload_n hx hb dX9_quiet_63 rfl (lv_at hl 0 rfl) ?_
  refine va_mmax hx hb (hml.trans hl.1.symm) hown (hts _ gw_208) (hts _ gw_209) (hts _ gw_206) (hts _ gw_210) (Nat.le_of_ble_eq_true rfl) (Nat.le_of_ble_eq_true rfl) (Nat.zero_le _) (Nat.zero_le _) dX9_quiet_64 ?_
  refine lv_istore_n (lv' := [(2, .int (imax l2 s0)), (3, .int s0), (0, .ref h0), (1, .int p1), (4, .int l4)]) hx hb dX9_quiet_67 rfl hl (by decide) rfl (fun ls hl => ?_)
  refine lv_iinc (v := l4 + 1) (lv' := [(4, .int (l4 + 1)), (2, .int (imax l2 s0)), (3, .int s0), (0, .ref h0), (1, .int p1)]) hx hb dX9_quiet_68 hl (k := 4) rfl rfl (by decide) rfl (fun ls hl => ?_)
  refine lv_goto (tgt := 27) hx hb dX9_quiet_71 (by decide) ?_
  exact hk27 A3 f3 A5 f5 A6 f6 (imax l2 s0) s0 (l4 + 1) h _ _ _ hPD hS (lv_sub hl [3, 4, 1, 2, 0] rfl)
set_option maxRecDepth 100000 in
set_option maxHeartbeats 4000000 in
theorem ww_f9_quiet_b27  (C0 : Cx cX9_quiet 5 (some .int) RX9 p s m args meth c G DA) {h0 : Nat} {a0 : Nat → Nat} {wk : Option Nat} {a1 : Nat → Nat} {a2 : Nat → Nat} {a3 : Nat → Nat} {g4 : Nat → Nat} {aB4 : Nat → Nat → Nat} {a5 : Nat → Nat} {a6 : Nat → Nat} {f0 : Nat → Int32} {A0 : Nat → Nat → Int32} {f1 : Nat → Int32} {A1 : Nat → Nat → Int32} {f2 : Nat → Int32} {A2 : Nat → Nat → Int32} {fB4 : Nat → Nat → Int32} {AB4 : Nat → Nat → Nat → Int32} {p1 : Int32}  {k27 : (Nat → Nat → Int32) → (Nat → Int32) → (Nat → Nat → Int32) → (Nat → Int32) → (Nat → Nat → Int32) → (Nat → Int32) → Int32 → Int32 → Int32 → Option (Int32 × (Nat → Nat → Int32) × (Nat → Int32) × (Nat → Nat → Int32) × (Nat → Int32) × (Nat → Nat → Int32) × (Nat → Int32))} {res : Int32 × (Nat → Nat → Int32) × (Nat → Int32) × (Nat → Nat → Int32) × (Nat → Int32) × (Nat → Nat → Int32) × (Nat → Int32)}  (hk27 : ∀ (A3 : Nat → Nat → Int32) (f3 : Nat → Int32) (A5 : Nat → Nat → Int32) (f5 : Nat → Int32) (A6 : Nat → Nat → Int32) (f6 : Nat → Int32) (l2 : Int32) (l3 : Int32) (l4 : Int32), k27 A3 f3 A5 f5 A6 f6 l2 l3 l4 = some res → ∀ (H : Heap) (locs : List Loc) (ls : Array Slot), WD G DA (wX9 G h0 a0 wk f0 A0 ++ (wX1 G (a0 1) a1 f1 A1 ++ (wX6 G (a0 2) a2 f2 A2 ++ (wX6 G (a0 3) a3 f3 A3 ++ (wB G (a0 5) g4 aB4 fB4 AB4 ++ (wX5 G (a0 6) a5 f5 A5 ++ (wX2 G (a0 11) a6 f6 A6))))))) H → va_S DA s.heap H locs → lv_has ls 5 [(0, .ref h0), (1, .int p1), (2, .int l2), (3, .int l3), (4, .int l4)] → W p l e rmX9_quiet s m args below meth c H locs 0 0 (MQ below (QI G DA res.1 (wX9 G h0 a0 wk f0 A0 ++ (wX1 G (a0 1) a1 f1 A1 ++ (wX6 G (a0 2) a2 f2 A2 ++ (wX6 G (a0 3) a3 res.2.2.1 res.2.1 ++ (wB G (a0 5) g4 aB4 fB4 AB4 ++ (wX5 G (a0 6) a5 res.2.2.2.2.1 res.2.2.2.1 ++ (wX2 G (a0 11) a6 res.2.2.2.2.2.2 res.2.2.2.2.2.1)))))))) args s 0 0 DA) (F0 m 27 ls [])) : ∀ (A3 : Nat → Nat → Int32) (f3 : Nat → Int32) (A5 : Nat → Nat → Int32) (f5 : Nat → Int32) (A6 : Nat → Nat → Int32) (f6 : Nat → Int32) (l2 : Int32) (l3 : Int32) (l4 : Int32), f9_quiet_b27 f0 A0 f1 A1 f2 A2 fB4 AB4 p1  k27 A3 f3 A5 f5 A6 f6 l2 l3 l4 = some res → ∀ (H : Heap) (locs : List Loc) (ls : Array Slot), WD G DA (wX9 G h0 a0 wk f0 A0 ++ (wX1 G (a0 1) a1 f1 A1 ++ (wX6 G (a0 2) a2 f2 A2 ++ (wX6 G (a0 3) a3 f3 A3 ++ (wB G (a0 5) g4 aB4 fB4 AB4 ++ (wX5 G (a0 6) a5 f5 A5 ++ (wX2 G (a0 11) a6 f6 A6))))))) H → va_S DA s.heap H locs → lv_has ls 5 [(0, .ref h0), (1, .int p1), (2, .int l2), (3, .int l3), (4, .int l4)] → W p l e rmX9_quiet s m args below meth c H locs 0 0 (MQ below (QI G DA res.1 (wX9 G h0 a0 wk f0 A0 ++ (wX1 G (a0 1) a1 f1 A1 ++ (wX6 G (a0 2) a2 f2 A2 ++ (wX6 G (a0 3) a3 res.2.2.1 res.2.1 ++ (wB G (a0 5) g4 aB4 fB4 AB4 ++ (wX5 G (a0 6) a5 res.2.2.2.2.1 res.2.2.2.1 ++ (wX2 G (a0 11) a6 res.2.2.2.2.2.2 res.2.2.2.2.2.1)))))))) args s 0 0 DA) (F0 m 27 ls []) := by
  obtain ⟨hx, hb, hml, hown, hts⟩ := C0.1
  have hK := C0.2.2.2.1
  intro A3 f3 A5 f5 A6 f6 l2 l3 l4 h _ _ _ hPD hS hl
  unfold f9_quiet_b27 at h
  refine lv_iload hx hb dX9_quiet_27 (lv_at hl 4 rfl) ?_
  refine lv_iload_n hx hb dX9_quiet_29 rfl (lv_at hl 1 rfl) ?_
  refine lv_icmp_ge (tgt := 74) hx hb dX9_quiet_30 (by decide) (fun cc1 => ?_) (fun cc1 => ?_)
  · have h := (if_pos cc1).symm.trans h
    refine lv_iload_n hx hb dX9_quiet_74 rfl (lv_at hl 2 rfl) ?_
    obtain rfl := Option.some.inj h
    exact eI C0 hPD.1 hPD.2 hS rfl dX9_quiet_75
  · have h := (if_neg cc1).symm.trans h
    refine lv_aload_n hx hb dX9_quiet_33 rfl (lv_at hl 0 rfl) ?_
    refine lv_aload_n hx hb dX9_quiet_34 rfl (lv_at hl 0 rfl) ?_
    refine va_get (D := G.1) (ci := 9) (v := .ref (a0 3)) (C := RX9) (T := TX9) (N := 15) hx hb hts inlX9 hown hK hPD.1 0 rfl rfl 3 (by decide) (hts _ gw_424) (fun _ h9 => h9) rfl dX9_quiet_35 ?_
    obtain ⟨q_3, hq_3, h⟩ := ob2 h
    refine kVI (As := [.ref (a0 3)]) (rest := []) C0 (kt_X9_passes l G h0 a0 wk a1 g4 aB4 a5 a6 (a0 3) a3 f0 A0 f1 A1 fB4 AB4 f5 A5 f6 A6 f3 A3 hq_3) gi_V_X9_168_X9_passes (n := 1) rfl (by decide +kernel) rfl ⟨rfl, rfl, Nat.le_of_ble_eq_true rfl, Nat.le_of_ble_eq_true rfl⟩ hPD hS 0 9 rfl rfl rfl [0, 1, 2, 3, 4, 5, 18, 19, 20, 21, 22, 23, 24, 25, 26, 27, 28, 29, 30, 31, 32, 33, 34, 35, 36, 37, 38, 39, 40, 41, 42, 43, 44, 45, 12, 13, 14, 15, 16, 17] [6, 7, 8, 9, 10, 11] [6, 7, 8, 9, 10, 11, 0, 1, 2, 3, 4, 5, 40, 41, 42, 43, 44, 45, 12, 13, 14, 15, 16, 17, 18, 19, 20, 21, 22, 23, 24, 25, 26, 27, 28, 29, 30, 31, 32, 33, 34, 35, 36, 37, 38, 39] (wr := (wX6 G (a0 2) a2 f2 A2)) (wN := (wX9 G h0 a0 wk f0 A0 ++ (wX1 G (a0 1) a1 f1 A1 ++ (wX6 G (a0 2) a2 f2 A2 ++ (wX6 G (a0 3) a3 q_3.2.2.2.2.2.2 q_3.2.2.2.2.2.1 ++ (wB G (a0 5) g4 aB4 fB4 AB4 ++ (wX5 G (a0 6) a5 q_3.2.2.1 q_3.2.1 ++ (wX2 G (a0 11) a6 q_3.2.2.2.2.1 q_3.2.2.2.1)))))))) rfl rfl rfl rfl rfl hl.1 (Nat.le_of_ble_eq_true rfl) dX9_quiet_38 (fun H locs hPD hS => ?_)
    refine lv_if_eq (tgt := 74) hx hb dX9_quiet_41 (by decide) (fun cc1 => ?_) (fun cc1 => ?_)
    · have h := (if_pos cc1).symm.trans h
      refine lv_iload_n hx hb dX9_quiet_74 rfl (lv_at hl 2 rfl) ?_
      obtain rfl := Option.some.inj h
      exact eI C0 hPD.1 hPD.2 hS rfl dX9_quiet_75
    · have h := (if_neg cc1).symm.trans h
      refine lv_aload_n hx hb dX9_quiet_44 rfl (lv_at hl 0 rfl) ?_
      refine va_get (D := G.1) (ci := 9) (v := .ref (a0 6)) (C := RX9) (T := TX9) (N := 15) hx hb hts inlX9 hown hK hPD.1 0 rfl rfl 6 (by decide) (hts _ gw_406) (fun _ h9 => h9) rfl dX9_quiet_45 ?_
      refine va_get (D := G.1) (ci := 5) (v := .int (q_3.2.2.1 2)) (C := RX5) (T := TX5) (N := 4) hx hb hts inlX5 hown hK hPD.1 35 rfl rfl 2 (by decide) (hts _ gw_418) (fun _ h9 => h9) rfl dX9_quiet_48 ?_
      refine lv_if_ne (tgt := 60) hx hb dX9_quiet_51 (by decide) (fun cc1 => ?_) (fun cc1 => ?_)
      · have h := (if_neg cc1).symm.trans h
        refine lv_iconst (v := 0) hx hb dX9_quiet_60 (by decide) ?_
        exact ww_f9_quiet_b61 C0 hk27 q_3.2.2.2.2.2.1 q_3.2.2.2.2.2.2 q_3.2.1 q_3.2.2.1 q_3.2.2.2.1 q_3.2.2.2.2.1 l2 l4 0 h _ _ _ hPD hS (lv_sub hl [0, 1, 2, 4] rfl)
      · have h := (if_pos cc1).symm.trans h
        refine lv_iload_n hx hb dX9_quiet_54 rfl (lv_at hl 3 rfl) ?_
        refine lv_iconst (v := 1) hx hb dX9_quiet_55 (by decide) ?_
        refine lv_iadd hx hb dX9_quiet_56 ?_
        refine lv_goto (tgt := 61) hx hb dX9_quiet_57 (by decide) ?_
        exact ww_f9_quiet_b61 C0 hk27 q_3.2.2.2.2.2.1 q_3.2.2.2.2.2.2 q_3.2.1 q_3.2.2.1 q_3.2.2.2.1 q_3.2.2.2.2.1 l2 l4 (l3 + 1) h _ _ _ hPD hS (lv_sub hl [0, 1, 2, 4] rfl)
set_option maxRecDepth 100000 in
set_option maxHeartbeats 4000000 in
theorem ww_f9_quiet_l27  (C0 : Cx cX9_quiet 5 (some .int) RX9 p s m args meth c G DA) {h0 : Nat} {a0 : Nat → Nat} {wk : Option Nat} {a1 : Nat → Nat} {a2 : Nat → Nat} {a3 : Nat → Nat} {g4 : Nat → Nat} {aB4 : Nat → Nat → Nat} {a5 : Nat → Nat} {a6 : Nat → Nat} {f0 : Nat → Int32} {A0 : Nat → Nat → Int32} {f1 : Nat → Int32} {A1 : Nat → Nat → Int32} {f2 : Nat → Int32} {A2 : Nat → Nat → Int32} {fB4 : Nat → Nat → Int32} {AB4 : Nat → Nat → Nat → Int32} {p1 : Int32}   {res : Int32 × (Nat → Nat → Int32) × (Nat → Int32) × (Nat → Nat → Int32) × (Nat → Int32) × (Nat → Nat → Int32) × (Nat → Int32)}  : ∀ (n : Nat) (A3 : Nat → Nat → Int32) (f3 : Nat → Int32) (A5 : Nat → Nat → Int32) (f5 : Nat → Int32) (A6 : Nat → Nat → Int32) (f6 : Nat → Int32) (l2 : Int32) (l3 : Int32) (l4 : Int32), f9_quiet_l27 f0 A0 f1 A1 f2 A2 fB4 AB4 p1  n A3 f3 A5 f5 A6 f6 l2 l3 l4 = some res → ∀ (H : Heap) (locs : List Loc) (ls : Array Slot), WD G DA (wX9 G h0 a0 wk f0 A0 ++ (wX1 G (a0 1) a1 f1 A1 ++ (wX6 G (a0 2) a2 f2 A2 ++ (wX6 G (a0 3) a3 f3 A3 ++ (wB G (a0 5) g4 aB4 fB4 AB4 ++ (wX5 G (a0 6) a5 f5 A5 ++ (wX2 G (a0 11) a6 f6 A6))))))) H → va_S DA s.heap H locs → lv_has ls 5 [(0, .ref h0), (1, .int p1), (2, .int l2), (3, .int l3), (4, .int l4)] → W p l e rmX9_quiet s m args below meth c H locs 0 0 (MQ below (QI G DA res.1 (wX9 G h0 a0 wk f0 A0 ++ (wX1 G (a0 1) a1 f1 A1 ++ (wX6 G (a0 2) a2 f2 A2 ++ (wX6 G (a0 3) a3 res.2.2.1 res.2.1 ++ (wB G (a0 5) g4 aB4 fB4 AB4 ++ (wX5 G (a0 6) a5 res.2.2.2.2.1 res.2.2.2.1 ++ (wX2 G (a0 11) a6 res.2.2.2.2.2.2 res.2.2.2.2.2.1)))))))) args s 0 0 DA) (F0 m 27 ls []) := by
  intro n
  induction n with
  | zero => intro A3 f3 A5 f5 A6 f6 l2 l3 l4 h; cases h
  | succ n ih => intro A3 f3 A5 f5 A6 f6 l2 l3 l4 h; exact ww_f9_quiet_b27 C0  ih A3 f3 A5 f5 A6 f6 l2 l3 l4 h
set_option maxRecDepth 100000 in
set_option maxHeartbeats 4000000 in
theorem kt_X9_quiet (l : Launch) (G : Gp) (h0 : Nat) (a0 : Nat → Nat) (wk : Option Nat) (a1 : Nat → Nat) (a2 : Nat → Nat) (a3 : Nat → Nat) (g4 : Nat → Nat) (aB4 : Nat → Nat → Nat) (a5 : Nat → Nat) (a6 : Nat → Nat) (f0 : Nat → Int32) (A0 : Nat → Nat → Int32) (f1 : Nat → Int32) (A1 : Nat → Nat → Int32) (f2 : Nat → Int32) (A2 : Nat → Nat → Int32) (f3 : Nat → Int32) (A3 : Nat → Nat → Int32) (fB4 : Nat → Nat → Int32) (AB4 : Nat → Nat → Nat → Int32) (f5 : Nat → Int32) (A5 : Nat → Nat → Int32) (f6 : Nat → Int32) (A6 : Nat → Nat → Int32) (p1 : Int32) : ∀ {r : Int32 × (Nat → Nat → Int32) × (Nat → Int32) × (Nat → Nat → Int32) × (Nat → Int32) × (Nat → Nat → Int32) × (Nat → Int32)}, f9_quiet f0 A0 f1 A1 f2 A2 f3 A3 fB4 AB4 f5 A5 f6 A6 p1 = some r → CtrI l yX9_quiet cX9_quiet 5 (some .int) rmX9_quiet G [.ref h0, .int p1] (wX9 G h0 a0 wk f0 A0 ++ (wX1 G (a0 1) a1 f1 A1 ++ (wX6 G (a0 2) a2 f2 A2 ++ (wX6 G (a0 3) a3 f3 A3 ++ (wB G (a0 5) g4 aB4 fB4 AB4 ++ (wX5 G (a0 6) a5 f5 A5 ++ (wX2 G (a0 11) a6 f6 A6))))))) r.1 (wX9 G h0 a0 wk f0 A0 ++ (wX1 G (a0 1) a1 f1 A1 ++ (wX6 G (a0 2) a2 f2 A2 ++ (wX6 G (a0 3) a3 r.2.2.1 r.2.1 ++ (wB G (a0 5) g4 aB4 fB4 AB4 ++ (wX5 G (a0 6) a5 r.2.2.2.2.1 r.2.2.2.1 ++ (wX2 G (a0 11) a6 r.2.2.2.2.2.2 r.2.2.2.2.2.1))))))) := by
  intro res h
  refine ctrI_of (cc := cX9_quiet) (maxL := 5) (ret := (some .int)) (by decide +kernel) rfl (Nat.le_of_ble_eq_true rfl) (fun p e s m below meth c DA C0 hP hD ls hl => ?_)
  have hPD : WD G DA (wX9 G h0 a0 wk f0 A0 ++ (wX1 G (a0 1) a1 f1 A1 ++ (wX6 G (a0 2) a2 f2 A2 ++ (wX6 G (a0 3) a3 f3 A3 ++ (wB G (a0 5) g4 aB4 fB4 AB4 ++ (wX5 G (a0 6) a5 f5 A5 ++ (wX2 G (a0 11) a6 f6 A6))))))) s.heap := ⟨hP, hD⟩
  have hS : va_S DA s.heap s.heap [] := va_S.rf
  have hl : lv_has ls 5 [(0, .ref h0), (1, .int p1)] := hl
  obtain ⟨hx, hb, hml, hown, hts⟩ := C0.1
  have hK := C0.2.2.2.1
  unfold f9_quiet at h
  refine lv_iload_n hx hb dX9_quiet_0 rfl (lv_at hl 1 rfl) ?_
  obtain ⟨q_1, hq_1, h⟩ := ob2 h
  refine kSI (As := [.int p1]) (rest := []) C0 (kt_X9_isHours l G  p1 hq_1) gi_S_X9_165_X9_isHours (n := 1) rfl (by decide +kernel) ⟨rfl, rfl, Nat.le_of_ble_eq_true rfl, Nat.le_of_ble_eq_true rfl⟩ hPD hS [] [0, 1, 2, 3, 4, 5, 6, 7, 8, 9, 10, 11, 12, 13, 14, 15, 16, 17, 18, 19, 20, 21, 22, 23, 24, 25, 26, 27, 28, 29, 30, 31, 32, 33, 34, 35, 36, 37, 38, 39, 40, 41, 42, 43, 44, 45] [0, 1, 2, 3, 4, 5, 6, 7, 8, 9, 10, 11, 12, 13, 14, 15, 16, 17, 18, 19, 20, 21, 22, 23, 24, 25, 26, 27, 28, 29, 30, 31, 32, 33, 34, 35, 36, 37, 38, 39, 40, 41, 42, 43, 44, 45] (wr := (wX9 G h0 a0 wk f0 A0 ++ (wX1 G (a0 1) a1 f1 A1 ++ (wX6 G (a0 2) a2 f2 A2 ++ (wX6 G (a0 3) a3 f3 A3 ++ (wB G (a0 5) g4 aB4 fB4 AB4 ++ (wX5 G (a0 6) a5 f5 A5 ++ (wX2 G (a0 11) a6 f6 A6)))))))) (wN := (wX9 G h0 a0 wk f0 A0 ++ (wX1 G (a0 1) a1 f1 A1 ++ (wX6 G (a0 2) a2 f2 A2 ++ (wX6 G (a0 3) a3 f3 A3 ++ (wB G (a0 5) g4 aB4 fB4 AB4 ++ (wX5 G (a0 6) a5 f5 A5 ++ (wX2 G (a0 11) a6 f6 A6)))))))) rfl rfl rfl rfl rfl hl.1 (Nat.le_of_ble_eq_true rfl) dX9_quiet_1 (fun H locs hPD hS => ?_)
  refine lv_if_ne (tgt := 9) hx hb dX9_quiet_4 (by decide) (fun cc1 => ?_) (fun cc1 => ?_)
  · have h := (if_neg cc1).symm.trans h
    refine lv_iconst (v := 0) hx hb dX9_quiet_9 (by decide) ?_
    refine lv_istore_n (lv' := [(2, .int 0), (0, .ref h0), (1, .int p1)]) hx hb dX9_quiet_10 rfl hl (by decide) rfl (fun ls hl => ?_)
    refine lv_iconst (v := 0) hx hb dX9_quiet_11 (by decide) ?_
    refine lv_istore_n (lv' := [(3, .int 0), (2, .int 0), (0, .ref h0), (1, .int p1)]) hx hb dX9_quiet_12 rfl hl (by decide) rfl (fun ls hl => ?_)
    refine lv_aload_n hx hb dX9_quiet_13 rfl (lv_at hl 2 rfl) ?_
    refine va_get (D := G.1) (ci := 9) (v := .ref (a0 3)) (C := RX9) (T := TX9) (N := 15) hx hb hts inlX9 hown hK hPD.1 0 rfl rfl 3 (by decide) (hts _ gw_424) (fun _ h9 => h9) rfl dX9_quiet_14 ?_
    refine lv_aload_n hx hb dX9_quiet_17 rfl (lv_at hl 2 rfl) ?_
    refine va_get (D := G.1) (ci := 9) (v := .ref (a0 2)) (C := RX9) (T := TX9) (N := 15) hx hb hts inlX9 hown hK hPD.1 0 rfl rfl 2 (by decide) (hts _ gw_353) (fun _ h9 => h9) rfl dX9_quiet_18 ?_
    obtain ⟨q_2, hq_2, h⟩ := ob2 h
    refine kVV (As := [.ref (a0 2)]) (rest := []) C0 (kt_X6_copy l G (a0 3) a3 (a0 2) a2 f3 A3 f2 A2 hq_2) gi_V_X9_178_X6_copy (n := 1) rfl (by decide +kernel) rfl ⟨rfl, rfl, Nat.le_of_ble_eq_true rfl, Nat.le_of_ble_eq_true rfl⟩ hPD hS 12 6 rfl rfl rfl [12, 13, 14, 15, 16, 17, 6, 7, 8, 9, 10, 11] [0, 1, 2, 3, 4, 5, 18, 19, 20, 21, 22, 23, 24, 25, 26, 27, 28, 29, 30, 31, 32, 33, 34, 35, 36, 37, 38, 39, 40, 41, 42, 43, 44, 45] [0, 1, 2, 3, 4, 5, 40, 41, 42, 43, 44, 45, 34, 35, 36, 37, 38, 39, 6, 7, 8, 9, 10, 11, 12, 13, 14, 15, 16, 17, 18, 19, 20, 21, 22, 23, 24, 25, 26, 27, 28, 29, 30, 31, 32, 33] (wr := (wX9 G h0 a0 wk f0 A0 ++ (wX1 G (a0 1) a1 f1 A1 ++ (wB G (a0 5) g4 aB4 fB4 AB4 ++ (wX5 G (a0 6) a5 f5 A5 ++ (wX2 G (a0 11) a6 f6 A6)))))) (wN := (wX9 G h0 a0 wk f0 A0 ++ (wX1 G (a0 1) a1 f1 A1 ++ (wX6 G (a0 2) a2 f2 A2 ++ (wX6 G (a0 3) a3 q_2.2 q_2.1 ++ (wB G (a0 5) g4 aB4 fB4 AB4 ++ (wX5 G (a0 6) a5 f5 A5 ++ (wX2 G (a0 11) a6 f6 A6)))))))) rfl rfl rfl rfl rfl hl.1 (Nat.le_of_ble_eq_true rfl) dX9_quiet_21 (fun H locs hPD hS => ?_)
    refine lv_iconst (v := 0) hx hb dX9_quiet_24 (by decide) ?_
    refine lv_istore (lv' := [(4, .int 0), (3, .int 0), (2, .int 0), (0, .ref h0), (1, .int p1)]) hx hb dX9_quiet_25 hl (by decide) rfl (fun ls hl => ?_)
    exact ww_f9_quiet_l27 C0 NF q_2.1 q_2.2 A5 f5 A6 f6 0 0 0 h _ _ _ hPD hS (lv_sub hl [3, 4, 2, 1, 0] rfl)
  · have h := (if_pos cc1).symm.trans h
    refine lv_iconst (v := (-1)) hx hb dX9_quiet_7 (by decide) ?_
    obtain rfl := Option.some.inj h
    exact eI C0 hPD.1 hPD.2 hS rfl dX9_quiet_8
end WALK
